/** What the tests by hand share: the answers' names, edge numbers, WAYS written as digits. */
class Hand {
    static final int NONE = LineBundles.NONE, BAD = LineBundles.BAD, STATE = LineBundles.STATE, FULL = LineBundles.FULL;
    static final int NULL = -1000011, PLACE = -1000012, KIND = -1000013, SIZE = -1000014, STORE = -1000015;
    static final int MAX = Integer.MAX_VALUE, MIN = Integer.MIN_VALUE;
    static final Due DUE = new Due();

    static void due(String what, int got, int want) {
        DUE.same(what, got, want);
    }

    /** Numbers that are none of 0 to less than n: next to both ends, and as far as can be. */
    static int[] beyond(int n) {
        return new int[] {MIN, MIN + 1, -1000000, -2, -1, n, n + 1, 1000000, MAX - 1, MAX};
    }

    static int[] edges() {
        return new int[] {MIN, -1, 10, MAX};
    }

    /** Writes directions to a SHEET of bytes. */
    static void write(LineBundles x, int sheet, String directions) {
        x.sheet(sheet, 0, directions.length());
        for (int i = 0; i < directions.length(); i++) {
            x.set(sheet, i, directions.charAt(i) - '0');
        }
    }

    /** Writes directions to SHEET 7 and lays a LINE by them. */
    static int lay(LineBundles x, int line, String directions) {
        write(x, 7, directions);
        return x.lay(line, 7, 0, directions.length());
    }

    static void dueWay(String what, LineBundles x, int line, String directions) {
        due(what + ", sides", x.way(line, -1), directions.length());
        for (int i = 0; i < directions.length(); i++) {
            due(what + ", direction " + i, x.way(line, i), directions.charAt(i) - '0');
        }
        due(what + ", beyond", x.way(line, directions.length()), NONE);
    }

    static void dueAll(String what, LineBundles x, int... wants) {
        for (int i = 0; i < wants.length; i++) {
            due(what + ", all " + i, x.all(i), wants[i]);
        }
    }

    static void dueTrace(String what, LineBundles x, int... wants) {
        for (int i = 0; i < wants.length; i++) {
            due(what + ", trace " + i, x.trace(i), wants[i]);
        }
        due(what + ", trace's end", x.trace(wants.length), NONE);
    }

    static void dueTints(String what, LineBundles x, int... wants) {
        int most = 0;
        for (int i = 0; i < wants.length; i++) {
            due(what + ", tint " + i, x.tint(i), wants[i]);
            most = Math.max(most, wants[i] + 1);
        }
        due(what + ", how many", x.tint(NONE), most);
    }

    /** A POINT in the middle (0), its four neighbours (1 + DIRECTION), and a LINE to each (DIRECTION). */
    static LineBundles star() {
        LineBundles x = new LineBundles();
        x.point(5, 5);
        x.point(5, 4);
        x.point(6, 5);
        x.point(5, 6);
        x.point(4, 5);
        for (int d = 0; d < 4; d++) {
            x.line(0, 1 + d);
        }
        return x;
    }

    /** Reads an ITEM by the LINES of a star: 0 to 3, or NONE if it is none of them. */
    static int item(LineBundles x, int sheet, int i) {
        for (int d = 0; d < 4; d++) {
            if (x.lay(d, sheet, i, 1) == 1) {
                return d;
            }
        }
        return NONE;
    }

    static String items(LineBundles x, int sheet, int n) {
        StringBuilder all = new StringBuilder();
        for (int i = 0; i < n; i++) {
            int item = item(x, sheet, i);
            all.append(item == NONE ? "?" : "" + item);
        }
        return all.toString();
    }

    static void dueItems(String what, LineBundles x, int sheet, String wants) {
        String got = items(x, sheet, wants.length());
        DUE.same(what + ", items " + got + ", due are " + wants + " (1: alike)", got.equals(wants) ? 1 : 0, 1);
    }

    /** Many LINES between the same two neighbours, all by the one SIDE between them. */
    static LineBundles rope(int lines) {
        LineBundles x = new LineBundles();
        x.point(0, 0);
        x.point(1, 0);
        for (int i = 0; i < lines; i++) {
            x.line(0, 1);
        }
        x.pass();
        return x;
    }

    /** Puts a POINT at a place of THE BOARD that was turned to the right some times. */
    static int pointTurned(LineBundles x, int px, int py, int times) {
        for (int i = 0; i < times; i++) {
            int was = px;
            px = 9 - py;
            py = was;
        }
        return x.point(px, py);
    }

    static String turned(String directions, int times) {
        StringBuilder all = new StringBuilder();
        for (char c : directions.toCharArray()) {
            all.append((c - '0' + times) % 4);
        }
        return all.toString();
    }
}
