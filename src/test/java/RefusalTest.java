import java.util.ArrayList;
import java.util.List;

/**
 * "What is refused, or found, changes nothing but status()": each such call is made on a net with something of
 * everything, and all that can be seen of that net afterwards is compared with a net on which it was not made.
 */
public final class RefusalTest extends Hand {
    private interface Call {
        int on(LineBundles x);
    }

    public static void main(String[] args) {
        due("nets are alike", look(net(), 0).equals(look(net(), 0)) ? 1 : 0, 1);
        sheetCalls();
        setCalls();
        copyCalls();
        dropCalls();
        netCalls();
        fullCalls();
        lineCalls();
        layCalls();
        lookCalls();
        askCalls();
        answersAreNoRefusals();
        DUE.end();
    }

    /** SHEETS of all LANES, an empty one among them; POINTS, SHUT places, LINES of all KINDS, a TRACE, a status. */
    private static LineBundles net() {
        LineBundles x = new LineBundles();
        write(x, 0, "1121");
        x.sheet(1, 1, 2);
        x.set(1, 0, 2);
        x.sheet(2, 2, 1);
        x.set(2, 0, 3);
        x.sheet(3, 0, 0);
        x.point(1, 1);
        x.point(4, 1);
        x.point(3, 1);
        x.point(1, 4);
        x.point(2, 1);
        x.point(1, 2);
        x.line(0, 1);
        x.line(0, 2);
        x.line(3, 0);
        x.line(1, 3);
        x.line(0, 4);
        x.line(0, 5);
        x.rule(0, 12);
        x.rule(1, 4);
        x.lead(0);
        x.lead(1);
        lay(x, 2, "30001");
        x.drop(7);
        x.shut(8, 8);
        x.shut(4, 4);
        x.ask(0, 0);
        x.set(0, 9, 0);
        return x;
    }

    /** All that can be seen, what changes the net coming last; fewer calls than an object is used for. */
    private static List<Integer> look(LineBundles x, int led) {
        List<Integer> seen = new ArrayList<>();
        for (int i = 0; i < 8; i++) {
            seen.add(x.count(i));
        }
        for (int i = 0; i < 6; i++) {
            seen.add(x.all(i));
        }
        for (int i = 0; i < 5; i++) {
            seen.add(x.trace(i));
        }
        lookAtLines(x, seen);
        for (int point = 0; point < 6; point++) {
            for (int d = 0; d < 4; d++) {
                seen.add(x.reads(point, d));
            }
        }
        lookAtSheets(x, seen);
        seen.add(x.rule(0, 1));
        seen.add(x.rule(1, 1));
        lookAtPlaces(x, seen);
        seen.add(x.line(0, 1));
        seen.add(x.lead(led));
        return seen;
    }

    private static void lookAtLines(LineBundles x, List<Integer> seen) {
        for (int line = 0; line < 6; line++) {
            for (int i = -1; i < Math.max(1, x.way(line, -1)); i++) {
                seen.add(x.way(line, i));
            }
            seen.add(x.kind(line));
            seen.add(x.tint(line));
            seen.add(x.shared(line, 0));
        }
    }

    /** ITEMS by LINES to the neighbours of a POINT, LANES by what is left of a number. */
    private static void lookAtSheets(LineBundles x, List<Integer> seen) {
        for (int s = 0; s < 4; s++) {
            for (int i = 0; i < 4; i++) {
                seen.add(x.lay(4, s, i, 1));
                seen.add(x.lay(5, s, i, 1));
            }
            seen.add(x.set(s, 0, 100000));
            seen.add(x.drop(s));
        }
        seen.add(x.drop(7));
    }

    private static void lookAtPlaces(LineBundles x, List<Integer> seen) {
        for (int i = 0; i < 100; i++) {
            seen.add(x.open(i % 10, i / 10));
        }
        for (int i = 0; i < 100; i++) {
            seen.add(x.point(i % 10, i / 10));
        }
    }

    private static void refused(String what, int answer, Call call) {
        LineBundles x = net();
        due(what + ", status ahead", x.status(), 2);
        due(what, call.on(x), answer);
        due(what + ", status", x.status(), answer <= NULL && answer >= STORE ? -1000010 - answer : 2);
        due(what + " changes nothing", look(x, 0).equals(look(net(), 0)) ? 1 : 0, 1);
    }

    private static void sheetCalls() {
        refused("sheet, no sheet", BAD, x -> x.sheet(8, 0, 1));
        refused("sheet, no sheet below", BAD, x -> x.sheet(-1, 0, 1));
        refused("sheet, no lane", BAD, x -> x.sheet(0, 3, 1));
        refused("sheet, no lane below", BAD, x -> x.sheet(0, -1, 1));
        refused("sheet, n above", BAD, x -> x.sheet(0, 0, 61));
        refused("sheet, n far above", BAD, x -> x.sheet(7, 0, MAX));
        refused("sheet, size", SIZE, x -> x.sheet(0, 1, -1));
        refused("sheet, size of a missing one", SIZE, x -> x.sheet(7, 0, MIN));
    }

    private static void setCalls() {
        refused("set, no sheet", BAD, x -> x.set(8, 0, 1));
        refused("set, no sheet below", BAD, x -> x.set(-1, 0, 1));
        refused("set, null", NULL, x -> x.set(7, 0, 1));
        refused("set, place", PLACE, x -> x.set(0, 4, 1));
        refused("set, place below", PLACE, x -> x.set(0, -1, 1));
        refused("set, place of none", PLACE, x -> x.set(3, 0, 1));
    }

    private static void copyCalls() {
        refused("copy, no sheet", BAD, x -> x.copy(8, 0, 0, 0, 1));
        refused("copy, no sheet", BAD, x -> x.copy(0, 0, 8, 0, 1));
        refused("copy, null", NULL, x -> x.copy(7, 0, 0, 0, 1));
        refused("copy, null", NULL, x -> x.copy(0, 0, 7, 0, 1));
        refused("copy, store", STORE, x -> x.copy(0, 0, 1, 0, 2));
        refused("copy, store", STORE, x -> x.copy(2, 0, 0, 0, 1));
        refused("copy, place of i", PLACE, x -> x.copy(0, 1, 0, 0, 4));
        refused("copy, place of j", PLACE, x -> x.copy(0, 0, 0, 1, 4));
        refused("copy, place of j, below", PLACE, x -> x.copy(0, 0, 0, -1, 2));
        refused("copy, place of n", PLACE, x -> x.copy(0, 0, 0, 1, -1));
        refused("copy, place of none", PLACE, x -> x.copy(0, 0, 3, 0, 1));
    }

    private static void dropCalls() {
        refused("drop, no sheet", BAD, x -> x.drop(8));
        refused("drop, no sheet below", BAD, x -> x.drop(-1));
        refused("drop, null", NULL, x -> x.drop(7));
    }

    private static void netCalls() {
        refused("point, no place", BAD, x -> x.point(10, 0));
        refused("point, no place", BAD, x -> x.point(0, -1));
        refused("point, there is one", STATE, x -> x.point(1, 1));
        refused("point, shut", STATE, x -> x.point(8, 8));
        refused("shut, no place", BAD, x -> x.shut(-1, 0));
        refused("shut, no place", BAD, x -> x.shut(0, 10));
        refused("shut, a point", STATE, x -> x.shut(1, 4));
        refused("shut, a way", STATE, x -> x.shut(0, 4));
        refused("shut, a way straight on", STATE, x -> x.shut(0, 3));
        refused("open, no place", BAD, x -> x.open(10, 10));
        refused("line, no point", BAD, x -> x.line(0, 6));
        refused("line, no point", BAD, x -> x.line(-1, 0));
        refused("line, the same", BAD, x -> x.line(2, 2));
        refused("rule, no rule", BAD, x -> x.rule(2, 1));
        refused("rule, base", BAD, x -> x.rule(0, 0));
        refused("rule, base", BAD, x -> x.rule(0, 101));
        refused("rule, save", BAD, x -> x.rule(1, -1));
        refused("rule, save", BAD, x -> x.rule(1, 51));
    }

    private static LineBundles full() {
        LineBundles x = net();
        for (int i = 6; i < 12; i++) {
            x.point(i - 2, 6);
            x.line(i % 5, 5);
        }
        return x;
    }

    /** FULL, and what comes ahead of it. */
    private static void fullCalls() {
        Call[] calls = {x -> x.point(0, 0), x -> x.line(0, 1), x -> x.point(8, 8), x -> x.line(0, 0)};
        int[] answers = {FULL, FULL, STATE, BAD};
        for (int i = 0; i < calls.length; i++) {
            LineBundles x = full();
            due("full " + i, calls[i].on(x), answers[i]);
            due("full " + i + ", status", x.status(), 2);
            due("full " + i + " changes nothing", look(x, 11).equals(look(full(), 11)) ? 1 : 0, 1);
        }
    }

    private static void lineCalls() {
        refused("lead, no line", BAD, x -> x.lead(6));
        refused("lead, no line below", BAD, x -> x.lead(-1));
        refused("take, no line", BAD, x -> x.take(6));
        refused("take, no line below", BAD, x -> x.take(-1));
        refused("way, no line", BAD, x -> x.way(6, 0));
        refused("way, i below", BAD, x -> x.way(0, -2));
    }

    private static void layCalls() {
        refused("lay, no line", BAD, x -> x.lay(6, 0, 0, 1));
        refused("lay, no sheet", BAD, x -> x.lay(0, 8, 0, 1));
        refused("lay, n", BAD, x -> x.lay(0, 0, 0, 0));
        refused("lay, n", BAD, x -> x.lay(0, 0, 0, 41));
        refused("lay, null", NULL, x -> x.lay(0, 7, 0, 1));
        refused("lay, place", PLACE, x -> x.lay(0, 0, 3, 2));
        refused("lay, place below", PLACE, x -> x.lay(0, 0, -1, 2));
        refused("lay, no way for one with a way", BAD, x -> x.lay(0, 0, 0, 4));
        refused("lay, no way for one without", BAD, x -> x.lay(3, 0, 0, 2));
        refused("lay, no way, not to its end", BAD, x -> x.lay(1, 0, 0, 1));
        refused("lay, no direction", BAD, x -> x.lay(0, 2, 0, 1));
    }

    private static void lookCalls() {
        refused("width, no place", BAD, x -> x.width(10, 0, 0));
        refused("width, no direction", BAD, x -> x.width(0, 0, 4));
        refused("all", BAD, x -> x.all(6));
        refused("detour, no line", BAD, x -> x.detour(6));
        refused("detour, no way", STATE, x -> x.detour(3));
        refused("shared, no line", BAD, x -> x.shared(0, 6));
        refused("tint, no line", BAD, x -> x.tint(6));
        refused("reads, no point", BAD, x -> x.reads(6, 0));
        refused("reads, no direction", BAD, x -> x.reads(0, 4));
        refused("reads, no width", STATE, x -> x.reads(4, 0));
    }

    private static void askCalls() {
        refused("kind, no line", BAD, x -> x.kind(6));
        refused("as, no line", BAD, x -> x.as(6, 0));
        refused("as, no kind", BAD, x -> x.as(0, 4));
        refused("as, no way", STATE, x -> x.as(3, 0));
        refused("as, kind", KIND, x -> x.as(0, 1));
        refused("as, kind", KIND, x -> x.as(0, 2));
        refused("ask, no line", BAD, x -> x.ask(6, 0));
        refused("ask, no ask", BAD, x -> x.ask(0, 2));
        refused("ask, no way", STATE, x -> x.ask(3, 0));
        refused("count", BAD, x -> x.count(8));
    }

    /** Calls that only tell something change nothing either. */
    private static void answersAreNoRefusals() {
        Call[] calls = {x -> x.way(0, -1), x -> x.way(3, 0), x -> x.width(0, 0, 0), x -> x.all(0), x -> x.all(3),
            x -> x.detour(0), x -> x.shared(0, 1), x -> x.tint(NONE), x -> x.tint(3), x -> x.reads(0, 1),
            x -> x.kind(0), x -> x.kind(3), x -> x.trace(0), x -> x.trace(-1), x -> x.count(4), x -> x.status(),
            x -> x.take(3), x -> x.open(0, 0), x -> x.shut(8, 8), x -> x.rule(0, 12), x -> x.rule(1, 4)};
        for (int i = 0; i < calls.length; i++) {
            LineBundles x = net();
            calls[i].on(x);
            due("call " + i + ", status", x.status(), 2);
            due("call " + i + " changes nothing", look(x, 0).equals(look(net(), 0)) ? 1 : 0, 1);
        }
    }
}
