/** SHEETS at their limits: each sentence of the document that names one (Terms; promises 2 to 5). */
public final class SheetEdgeTest extends Hand {
    public static void main(String[] args) {
        missingAtFirst();
        eightSheets();
        noSuchSheet();
        noSuchLane();
        fewestAndMostItems();
        tooManyItems();
        fewerThanNone();
        zeroAtFirst();
        zeroAgain();
        inPlaceOfWhatIsThere();
        lowestBitsOfBytes();
        lowestBitsOfShorts();
        allBitsOfInts();
        whatItIsThen();
        setOfMissing();
        setBeyondAnEnd();
        copyAsTheyWereAhead();
        copyOfAllAndOfNone();
        copyOfBadSheets();
        copyOfMissing();
        copyOfTwoLanes();
        copyBelowZero();
        copyBeyondAnEnd();
        copyFarBeyond();
        copyKeepsTheRest();
        dropTellsHowMany();
        dropOfMissing();
        dropAndAnew();
        DUE.end();
    }

    /** "SHEETS 0 .. 7 are missing (at first)" */
    private static void missingAtFirst() {
        LineBundles x = star();
        due("missing: none there", x.count(0), 0);
        for (int s = 0; s < 8; s++) {
            due("missing: set " + s, x.set(s, 0, 0), NULL);
            due("missing: copy " + s, x.copy(s, 0, s, 0, 0), NULL);
            due("missing: lay " + s, x.lay(0, s, 0, 1), NULL);
            due("missing: drop " + s, x.drop(s), NULL);
        }
    }

    /** "SHEETS 0 .. 7": all of them can be there at once, and each has ITEMS of its own. */
    private static void eightSheets() {
        LineBundles x = star();
        for (int s = 0; s < 8; s++) {
            due("eight: sheet " + s, x.sheet(s, s % 3, 1 + s), 1 + s);
            due("eight: set " + s, x.set(s, s, s % 4), s % 4);
            due("eight: count", x.count(0), s + 1);
        }
        for (int s = 0; s < 8; s++) {
            dueItems("eight: sheet " + s, x, s, "0".repeat(s) + s % 4);
        }
        for (int s = 0; s < 8; s++) {
            due("eight: drop " + s, x.drop(s), 1 + s);
            due("eight: count less", x.count(0), 7 - s);
        }
    }

    /** "BAD: SHEET" of sheet, set, copy, drop, lay. */
    private static void noSuchSheet() {
        LineBundles x = star();
        x.sheet(0, 0, 1);
        x.sheet(7, 0, 1);
        for (int s : beyond(8)) {
            due("no sheet: sheet " + s, x.sheet(s, 0, 1), BAD);
            due("no sheet: set " + s, x.set(s, 0, 1), BAD);
            due("no sheet: copy from " + s, x.copy(s, 0, 0, 0, 1), BAD);
            due("no sheet: copy to " + s, x.copy(7, 0, s, 0, 1), BAD);
            due("no sheet: drop " + s, x.drop(s), BAD);
            due("no sheet: lay " + s, x.lay(0, s, 0, 1), BAD);
        }
        due("no sheet: still two", x.count(0), 2);
    }

    /** "BAD: .. LANE": 0, 1, 2 alone. */
    private static void noSuchLane() {
        LineBundles x = new LineBundles();
        for (int lane : beyond(3)) {
            due("no lane: " + lane, x.sheet(0, lane, 1), BAD);
            due("no lane, size too: " + lane, x.sheet(0, lane, -1), BAD);
        }
        due("no lane: missing still", x.drop(0), NULL);
        for (int lane = 0; lane < 3; lane++) {
            due("lane " + lane, x.sheet(0, lane, 1), 1);
        }
    }

    /** "0 to 60 ITEMS" */
    private static void fewestAndMostItems() {
        for (int lane = 0; lane < 3; lane++) {
            LineBundles x = new LineBundles();
            due("no items", x.sheet(0, lane, 0), 0);
            due("no items: it is there", x.count(0), 1);
            due("no items: none to set", x.set(0, 0, 1), PLACE);
            due("no items: dropped", x.drop(0), 0);
            due("60 items", x.sheet(0, lane, 60), 60);
            due("60 items: the last", x.set(0, 59, 1), 1);
            due("60 items: beyond", x.set(0, 60, 1), PLACE);
            due("60 items: dropped", x.drop(0), 60);
        }
    }

    /** "BAD: .. n above 60" */
    private static void tooManyItems() {
        LineBundles x = new LineBundles();
        x.sheet(0, 0, 60);
        for (int n : new int[] {61, 62, 100, 1000000, MAX - 1, MAX}) {
            due("too many: " + n, x.sheet(0, 0, n), BAD);
            due("too many for a missing one: " + n, x.sheet(1, 2, n), BAD);
        }
        due("too many: it stays", x.drop(0), 60);
        due("too many: missing still", x.drop(1), NULL);
    }

    /** "4 SIZE (fewer than none)", behind BAD. */
    private static void fewerThanNone() {
        LineBundles x = new LineBundles();
        x.sheet(0, 0, 5);
        for (int n : new int[] {MIN, MIN + 1, -61, -60, -2, -1}) {
            due("fewer than none: " + n, x.sheet(0, 2, n), SIZE);
            due("fewer than none, status", x.status(), 4);
            due("fewer than none, no lane: " + n, x.sheet(0, 3, n), BAD);
            due("fewer than none, no sheet: " + n, x.sheet(8, 0, n), BAD);
            due("fewer than none, for a missing one: " + n, x.sheet(1, 0, n), SIZE);
        }
        due("fewer than none: missing still", x.count(0), 1);
        due("fewer than none: the lane stays", x.set(0, 4, 200), -56);
        due("fewer than none: the items stay", x.drop(0), 5);
    }

    /** "ITEMS, 0 at first" */
    private static void zeroAtFirst() {
        for (int lane = 0; lane < 3; lane++) {
            LineBundles x = star();
            x.sheet(lane, lane, 60);
            dueItems("0 at first", x, lane, "0".repeat(60));
        }
    }

    /** "0 at first" holds for a new SHEET in place of one with ITEMS, a longer one than that before it too. */
    private static void zeroAgain() {
        LineBundles x = star();
        write(x, 3, "3".repeat(20));
        x.sheet(3, 0, 4);
        dueItems("0 again, shorter", x, 3, "0000");
        x.sheet(3, 0, 20);
        dueItems("0 again, longer", x, 3, "0".repeat(20));
        write(x, 3, "2".repeat(20));
        x.sheet(3, 1, 20);
        dueItems("0 again, of another lane", x, 3, "0".repeat(20));
    }

    /** "in place of what is there": of an end and a LANE of its own. */
    private static void inPlaceOfWhatIsThere() {
        LineBundles x = new LineBundles();
        x.sheet(0, 2, 10);
        due("in place: before", x.set(0, 9, 70000), 70000);
        due("in place: fewer", x.sheet(0, 1, 3), 3);
        due("in place: its end", x.set(0, 3, 1), PLACE);
        due("in place: its lane", x.set(0, 2, 70000), 4464);
        due("in place: more", x.sheet(0, 0, 12), 12);
        due("in place: its new end", x.set(0, 11, 1), 1);
        due("in place: its new lane", x.set(0, 11, 4464), 112);
        due("in place: one sheet", x.count(0), 1);
        due("in place: dropped", x.drop(0), 12);
    }

    private static void dueSet(LineBundles x, int v, int want) {
        due("set " + v, x.set(0, 0, v), want);
    }

    /** "its lowest bits, as many as the LANE has (read with their sign)" */
    private static void lowestBitsOfBytes() {
        LineBundles x = new LineBundles();
        x.sheet(0, 0, 1);
        int[][] rows = {{0, 0}, {1, 1}, {-1, -1}, {127, 127}, {128, -128}, {-128, -128}, {-129, 127}, {255, -1},
            {256, 0}, {257, 1}, {-256, 0}, {-257, -1}, {383, 127}, {384, -128}, {32768, 0}, {65535, -1},
            {MAX, -1}, {MIN, 0}, {MIN + 127, 127}, {MAX - 127, -128}};
        for (int[] row : rows) {
            dueSet(x, row[0], row[1]);
        }
    }

    private static void lowestBitsOfShorts() {
        LineBundles x = new LineBundles();
        x.sheet(0, 1, 1);
        int[][] rows = {{0, 0}, {-1, -1}, {128, 128}, {256, 256}, {-129, -129}, {32767, 32767}, {32768, -32768},
            {-32768, -32768}, {-32769, 32767}, {65535, -1}, {65536, 0}, {65537, 1}, {-65536, 0}, {-65537, -1},
            {98303, 32767}, {98304, -32768}, {MAX, -1}, {MIN, 0}, {MIN + 32767, 32767}, {MAX - 32767, -32768}};
        for (int[] row : rows) {
            dueSet(x, row[0], row[1]);
        }
    }

    private static void allBitsOfInts() {
        LineBundles x = new LineBundles();
        x.sheet(0, 2, 1);
        for (int v : new int[] {0, 1, -1, 128, -129, 32768, -32769, 65536, 1 << 30, MAX, MIN, MIN + 1, NONE, BAD}) {
            dueSet(x, v, v);
        }
    }

    /** "ITEM i becomes v ..: what it is then": what was cut is what stands there. */
    private static void whatItIsThen() {
        LineBundles x = star();
        x.sheet(0, 0, 3);
        x.sheet(1, 1, 3);
        x.sheet(2, 2, 3);
        for (int s = 0; s < 3; s++) {
            due("first", x.set(s, 0, 1), 1);
            x.set(s, 1, 256 + 2);
            x.set(s, 2, 65536 + 3);
        }
        dueItems("cut to bytes", x, 0, "123");
        dueItems("cut to shorts", x, 1, "1?3");
        dueItems("ints are not cut", x, 2, "1??");
    }

    /** "NULL; PLACE" of set: NULL is first in time. */
    private static void setOfMissing() {
        LineBundles x = new LineBundles();
        for (int i : new int[] {MIN, -1, 0, 59, 60, MAX}) {
            due("set of a missing one at " + i, x.set(4, i, 1), NULL);
            due("set of a missing one, status", x.status(), 1);
        }
        due("set makes none", x.count(0), 0);
    }

    /** "2 PLACE (no such place of a SHEET)" of set. */
    private static void setBeyondAnEnd() {
        for (int n : new int[] {0, 1, 2, 59, 60}) {
            LineBundles x = new LineBundles();
            x.sheet(0, 0, n);
            for (int i : beyond(n)) {
                due("set at " + i + " of " + n, x.set(0, i, 1), PLACE);
                due("set beyond, status", x.status(), 2);
            }
            due("set at the last of " + n, x.set(0, n - 1, 1), n == 0 ? PLACE : 1);
            due("set at the first of " + n, x.set(0, 0, 1), n == 0 ? PLACE : 1);
        }
    }

    /** "n ITEMS of a from i on come to b from j on, as they were ahead" */
    private static void copyAsTheyWereAhead() {
        String ahead = "0123012301";
        for (int i = 0; i <= 4; i++) {
            for (int j = 0; j <= 4; j++) {
                LineBundles x = star();
                write(x, 0, ahead);
                write(x, 1, ahead);
                due("copy within one", x.copy(0, i, 0, j, 6), 6);
                due("copy to another", x.copy(1, i, 2, j, 6), NULL);
                x.sheet(2, 0, 10);
                due("copy to another", x.copy(1, i, 2, j, 6), 6);
                String come = ahead.substring(i, i + 6);
                dueItems("within one", x, 0, ahead.substring(0, j) + come + ahead.substring(j + 6));
                dueItems("to another", x, 2, "0".repeat(j) + come + "0".repeat(4 - j));
                dueItems("from another", x, 1, ahead);
            }
        }
    }

    /** n = 0 and n = 60: none and all. */
    private static void copyOfAllAndOfNone() {
        LineBundles x = star();
        String all = "0123".repeat(15);
        write(x, 0, all);
        x.sheet(1, 0, 60);
        due("copy of none", x.copy(0, 0, 1, 0, 0), 0);
        due("copy of none at the ends", x.copy(0, 60, 1, 60, 0), 0);
        due("copy of none, status", x.status(), 0);
        due("copy of none came", x.lay(3, 1, 59, 1), BAD);
        due("copy of all", x.copy(0, 0, 1, 0, 60), 60);
        due("copy of all to itself", x.copy(1, 0, 1, 0, 60), 60);
        due("copy of all and one", x.copy(0, 0, 1, 0, 61), PLACE);
        dueItems("copy of all", x, 1, all);
        x.sheet(2, 0, 0);
        due("copy of none from none", x.copy(2, 0, 2, 0, 0), 0);
        due("copy of none to none", x.copy(0, 60, 2, 0, 0), 0);
        due("copy of one to none", x.copy(0, 0, 2, 0, 1), PLACE);
    }

    /** "BAD: SHEETS" ahead of NULL, STORE, PLACE, whichever of the two it is. */
    private static void copyOfBadSheets() {
        LineBundles x = new LineBundles();
        x.sheet(0, 0, 1);
        x.sheet(1, 1, 1);
        for (int s : beyond(8)) {
            for (int other = 0; other < 3; other++) {
                due("copy from " + s + " to " + other, x.copy(s, -1, other, -1, -1), BAD);
                due("copy from " + other + " to " + s, x.copy(other, -1, s, -1, -1), BAD);
            }
            due("copy from " + s + " to it", x.copy(s, 0, s, 0, 0), BAD);
        }
    }

    /** "NULL" ahead of STORE and PLACE, whichever of the two it is. */
    private static void copyOfMissing() {
        LineBundles x = new LineBundles();
        x.sheet(2, 2, 3);
        for (int i : new int[] {MIN, -1, 0, 3, 4, MAX}) {
            due("copy from a missing one", x.copy(0, i, 2, 0, 1), NULL);
            due("copy to a missing one", x.copy(2, 0, 0, i, 1), NULL);
            due("copy of " + i, x.copy(0, 0, 2, 0, i), NULL);
            due("copy from a missing one to it", x.copy(0, 0, 0, 0, i), NULL);
            due("copy of missing, status", x.status(), 1);
        }
        x.drop(2);
        due("copy from a dropped one", x.copy(2, 0, 2, 0, 0), NULL);
    }

    /** "5 STORE (SHEETS of two LANES)" ahead of PLACE; of none ITEMS too. */
    private static void copyOfTwoLanes() {
        LineBundles x = new LineBundles();
        for (int s = 0; s < 6; s++) {
            x.sheet(s, s % 3, 3);
        }
        for (int a = 0; a < 6; a++) {
            for (int b = 0; b < 6; b++) {
                boolean alike = a % 3 == b % 3;
                due("copy from " + a + " to " + b, x.copy(a, 0, b, 0, 3), alike ? 3 : STORE);
                due("copy's status", x.status(), alike ? 0 : 5);
                due("copy of none", x.copy(a, 0, b, 0, 0), alike ? 0 : STORE);
                due("copy from beyond", x.copy(a, 4, b, 0, 1), alike ? PLACE : STORE);
                due("copy from below", x.copy(a, 0, b, -1, MIN), alike ? PLACE : STORE);
            }
        }
    }

    /** "PLACE (i, j, n below 0 ..)" */
    private static void copyBelowZero() {
        LineBundles x = new LineBundles();
        x.sheet(0, 0, 60);
        x.sheet(1, 0, 60);
        for (int below : new int[] {MIN, MIN + 1, -60, -2, -1}) {
            for (int b = 0; b < 2; b++) {
                due("copy, i " + below, x.copy(0, below, b, 0, 1), PLACE);
                due("copy of none, i " + below, x.copy(0, below, b, 0, 0), PLACE);
                due("copy, j " + below, x.copy(0, 0, b, below, 1), PLACE);
                due("copy of none, j " + below, x.copy(0, 0, b, below, 0), PLACE);
                due("copy, n " + below, x.copy(0, 0, b, 0, below), PLACE);
                due("copy, n, at the ends " + below, x.copy(0, 60, b, 60, below), PLACE);
                due("copy, all " + below, x.copy(0, below, b, below, below), PLACE);
                due("copy below 0, status", x.status(), 2);
            }
        }
    }

    /** "PLACE (.. or beyond an end)": the one's and the other's. */
    private static void copyBeyondAnEnd() {
        LineBundles x = new LineBundles();
        x.sheet(0, 1, 5);
        x.sheet(1, 1, 3);
        for (int i = 0; i <= 6; i++) {
            for (int n = 0; n <= 6; n++) {
                due("copy of " + n + " from " + i + " of 5", x.copy(0, i, 0, 0, n), i + n <= 5 ? n : PLACE);
                due("copy of " + n + " to " + i + " of 5", x.copy(0, 0, 0, i, n), i + n <= 5 ? n : PLACE);
                due("copy of " + n + " from " + i + " to 3", x.copy(0, i, 1, 0, n), i + n <= 5 && n <= 3 ? n : PLACE);
                due("copy of " + n + " to " + i + " of 3", x.copy(0, 0, 1, i, n), i + n <= 3 ? n : PLACE);
            }
        }
    }

    /** Beyond an end by numbers whose sum wraps around. */
    private static void copyFarBeyond() {
        LineBundles x = new LineBundles();
        x.sheet(0, 2, 60);
        int[] far = {61, 1000000, MAX / 2 + 1, MAX - 60, MAX - 1, MAX};
        for (int a : far) {
            due("copy from " + a, x.copy(0, a, 0, 0, 1), PLACE);
            due("copy to " + a, x.copy(0, 0, 0, a, 1), PLACE);
            due("copy of " + a, x.copy(0, 0, 0, 0, a), PLACE);
            due("copy of none from " + a, x.copy(0, a, 0, 0, 0), PLACE);
            due("copy of none to " + a, x.copy(0, 0, 0, a, 0), PLACE);
            for (int b : far) {
                due("copy from " + a + " of " + b, x.copy(0, a, 0, 0, b), PLACE);
                due("copy to " + a + " of " + b, x.copy(0, 0, 0, a, b), PLACE);
            }
            due("copy of " + a + " from the last", x.copy(0, 59, 0, 59, a), PLACE);
        }
    }

    /** A copy that is found wrong brings none, not even those ITEMS that would be there. */
    private static void copyKeepsTheRest() {
        LineBundles x = star();
        write(x, 0, "11111");
        write(x, 1, "222");
        due("too long for one", x.copy(0, 0, 1, 0, 4), PLACE);
        due("too long for the other", x.copy(1, 1, 0, 0, 3), PLACE);
        dueItems("kept", x, 0, "11111");
        dueItems("kept, the other", x, 1, "222");
    }

    /** "how many ITEMS it had" */
    private static void dropTellsHowMany() {
        LineBundles x = new LineBundles();
        for (int n = 0; n <= 60; n++) {
            int s = n % 8;
            x.sheet(s, n % 3, n);
            due("drop of " + n, x.drop(s), n);
            due("dropped, status", x.status(), 0);
            due("dropped", x.drop(s), NULL);
        }
    }

    /** "BAD; NULL" of drop; "from now on". */
    private static void dropOfMissing() {
        LineBundles x = star();
        write(x, 0, "1");
        due("it is there", x.lay(1, 0, 0, 1), 1);
        due("drop", x.drop(0), 1);
        due("dropped: drop", x.drop(0), NULL);
        due("dropped: status", x.status(), 1);
        due("dropped: set", x.set(0, 0, 1), NULL);
        due("dropped: copy", x.copy(0, 0, 0, 0, 1), NULL);
        due("dropped: lay", x.lay(1, 0, 0, 1), NULL);
        due("dropped: count", x.count(0), 0);
        dueWay("dropped: a WAY told by it stays", x, 1, "1");
    }

    /** A SHEET made anew after it was dropped has none of its old ITEMS. */
    private static void dropAndAnew() {
        LineBundles x = star();
        write(x, 6, "32132");
        x.drop(6);
        due("anew", x.sheet(6, 0, 5), 5);
        dueItems("anew", x, 6, "00000");
    }
}
