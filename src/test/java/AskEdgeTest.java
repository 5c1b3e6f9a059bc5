/** KINDS, ASKS, THE TRACE, counts and status at their limits, sentence by sentence (Terms; promises 23 to 28). */
public final class AskEdgeTest extends Hand {
    public static void main(String[] args) {
        kindRefused();
        kindAsItIsTold();
        kindByOneSide();
        asRefused();
        asOtherKinds();
        askRefused();
        askWithoutWay();
        askAtItsLimits();
        askBodies();
        traceAtFirst();
        traceLimits();
        traceIsKept();
        countRefused();
        countFromNoneToFull();
        statusAtFirst();
        statusOfEachFinding();
        statusOfRefused();
        statusOfOtherCalls();
        statusOfFineCalls();
        DUE.end();
    }

    /** A LINE 0 of five SIDES, 1 of the first three of them, 2 elsewhere, 3 without a WAY. */
    private static LineBundles kinds() {
        LineBundles x = new LineBundles();
        x.point(0, 0);
        x.point(5, 0);
        x.point(3, 0);
        x.point(0, 9);
        x.point(2, 9);
        x.line(0, 1);
        x.line(0, 2);
        x.line(3, 4);
        x.line(0, 4);
        x.lead(0);
        x.lead(1);
        x.lead(2);
        return x;
    }

    /** "BAD" of kind, as, ask: LINES there are not. */
    private static void kindRefused() {
        for (int lines : new int[] {0, 1, 12}) {
            LineBundles x = rope(lines);
            for (int line : beyond(lines)) {
                due("kind of no line " + line, x.kind(line), BAD);
                due("as of no line " + line, x.as(line, 0), BAD);
                due("ask of no line " + line, x.ask(line, 0), BAD);
            }
        }
    }

    /** "as it is told (1 to 3); NONE": never 0. */
    private static void kindAsItIsTold() {
        LineBundles x = kinds();
        due("some sides have another one, some have not", x.kind(0), 3);
        due("each has", x.kind(1), 2);
        due("none has", x.kind(2), 1);
        due("no way", x.kind(3), NONE);
        x.take(1);
        due("alone again", x.kind(0), 1);
        due("no way any more", x.kind(1), NONE);
        lay(x, 1, "11210");
        due("two of five", x.kind(0), 3);
        due("two of five, the other one", x.kind(1), 3);
        lay(x, 1, "21110");
        due("they only meet at their ends", x.kind(0), 1);
        due("they only meet at their ends", x.kind(1), 1);
    }

    /** One SIDE is each SIDE: BOUND, not FORKED; all but one is FORKED. */
    private static void kindByOneSide() {
        LineBundles x = rope(1);
        due("one alone", x.kind(0), 1);
        x.line(1, 0);
        x.lead(1);
        due("one of one", x.kind(0), 2);
        due("one of one, back", x.kind(1), 2);
        LineBundles y = new LineBundles();
        for (int i = 0; i < 10; i++) {
            y.point(i, 0);
        }
        y.line(0, 9);
        y.lead(0);
        for (int i = 0; i < 9; i++) {
            y.line(i, i + 1);
            due("none, or some", y.kind(0), i == 0 ? 1 : 3);
            y.lead(i + 1);
        }
        due("each, with another one each", y.kind(0), 2);
        y.take(5);
        due("all but one", y.kind(0), 3);
        due("shares", y.ask(0, 1), 8 * 7 + 10 + 8);
    }

    /** "A KIND (0 .. 3) .. BAD; STATE: it has no WAY; KIND" in this order. */
    private static void asRefused() {
        LineBundles x = kinds();
        for (int kind : beyond(4)) {
            for (int line = 0; line < 4; line++) {
                due("no kind " + kind, x.as(line, kind), BAD);
            }
        }
        for (int kind = 0; kind < 4; kind++) {
            due("no way", x.as(3, kind), STATE);
            due("no line", x.as(4, kind), BAD);
        }
    }

    /** "3 KIND (a LINE that is not that)": each of them with each KIND. */
    private static void asOtherKinds() {
        LineBundles x = kinds();
        int[] sides = {5, 3, 2}, told = {3, 2, 1};
        for (int line = 0; line < 3; line++) {
            for (int kind = 0; kind < 4; kind++) {
                boolean is = kind == 0 || kind == told[line];
                due(line + " as " + kind, x.as(line, kind), is ? sides[line] : KIND);
                due(line + " as " + kind + ", status", x.status(), is ? 0 : 3);
            }
        }
    }

    /** "An ASK (0, 1)" */
    private static void askRefused() {
        LineBundles x = kinds();
        for (int what : beyond(2)) {
            for (int line = -1; line <= 4; line++) {
                due("no ask " + what, x.ask(line, what), BAD);
            }
        }
        dueTrace("no ask", x);
    }

    /** "STATE: it has no WAY." */
    private static void askWithoutWay() {
        LineBundles x = kinds();
        for (int what = 0; what < 2; what++) {
            due("no way", x.ask(3, what), STATE);
            due("no line", x.ask(4, what), BAD);
            due("a way", x.ask(2, what) > 0 ? 1 : 0, 1);
        }
        x.take(2);
        due("no way any more", x.ask(2, 0), STATE);
    }

    /** Twelve by one SIDE: "what its SIDES cost it, the others being there". */
    private static void askAtItsLimits() {
        LineBundles x = rope(12);
        x.rule(0, 100);
        x.rule(1, 9);
        for (int i = 0; i < 12; i++) {
            due("with eleven others", x.ask(i, 1), 1 + 2);
        }
        x.rule(1, 8);
        due("12 above 0", x.ask(0, 1), 12 + 2);
        x.rule(1, 0);
        due("no saving", x.ask(11, 1), 100 + 2);
        for (int i = 1; i < 12; i++) {
            x.take(i);
        }
        due("alone", x.ask(0, 1), 100);
        due("alone, size", x.ask(0, 0), 1 + 100);
    }

    /** The BODIES and what they leave, by KINDS. */
    private static void askBodies() {
        LineBundles x = kinds();
        due("forked, size", x.ask(0, 0), 5 + (3 * 7 + 2 * 10 + 3));
        dueTrace("forked, size", x, 13, 10, 22, 20);
        due("forked, mark", x.ask(0, 1), 3 * 7 + 2 * 10 + 3);
        dueTrace("forked, mark", x, 22, 20);
        due("bound, size", x.ask(1, 0), 6);
        dueTrace("bound, size", x, 12, 10);
        due("bound, mark", x.ask(1, 1), 3 * 7 + 6);
        dueTrace("bound, mark", x, 21, 20, 12, 10);
        due("alone, size", x.ask(2, 0), 2 + 100);
        dueTrace("alone, size", x, 11, 10);
        due("alone, mark", x.ask(2, 1), 20);
        dueTrace("alone, mark", x, 20);
    }

    private static void traceAtFirst() {
        LineBundles x = new LineBundles();
        for (int i = -1; i <= 17; i++) {
            due("at first " + i, x.trace(i), NONE);
        }
    }

    /** "Number i of THE TRACE; NONE." */
    private static void traceLimits() {
        LineBundles x = kinds();
        x.ask(0, 0);
        due("the first", x.trace(0), 13);
        due("the last", x.trace(3), 20);
        for (int i : new int[] {MIN, MIN + 1, NONE, -2, -1, 4, 5, 15, 16, 17, 1000000, MAX - 1, MAX}) {
            due("no number " + i, x.trace(i), NONE);
        }
        x.ask(2, 1);
        due("a shorter one", x.trace(0), 20);
        due("nothing is left of the longer one", x.trace(1), NONE);
        due("nothing is left of the longer one", x.trace(3), NONE);
    }

    /** "THE TRACE is empty ahead of it, if it is neither": BAD and STATE leave it, and so do all other calls. */
    private static void traceIsKept() {
        LineBundles x = kinds();
        x.ask(1, 1);
        x.ask(3, 0);
        x.ask(4, 0);
        x.ask(0, 2);
        x.ask(-1, -1);
        dueTrace("refused", x, 21, 20, 12, 10);
        x.kind(0);
        x.as(0, 3);
        x.detour(0);
        x.lead(3);
        x.take(1);
        x.pass();
        x.rest();
        dueTrace("other calls", x, 21, 20, 12, 10);
        due("asked again", x.ask(2, 0), 102);
        dueTrace("asked again", x, 11, 10);
    }

    private static void countRefused() {
        LineBundles x = kinds();
        for (int what : beyond(8)) {
            due("no count " + what, x.count(what), BAD);
        }
    }

    private static void dueCounts(String what, LineBundles x, int... wants) {
        for (int i = 0; i < wants.length; i++) {
            due(what + ", count " + i, x.count(i), wants[i]);
        }
    }

    private static void countFromNoneToFull() {
        LineBundles x = new LineBundles();
        dueCounts("none", x, 0, 0, 0, 0, 0, 0, 0, 0);
        for (int s = 0; s < 8; s++) {
            x.sheet(s, 0, 0);
        }
        for (int i = 0; i < 12; i++) {
            x.point(i % 10, i / 10);
        }
        for (int i = 0; i < 12; i++) {
            x.line(0, 1);
        }
        dueCounts("without ways", x, 8, 12, 12, 0, 0, 0, 0, 0);
        x.lead(0);
        dueCounts("one", x, 8, 12, 12, 1, 1, 0, 0, 0);
        x.rest();
        dueCounts("all bound", x, 8, 12, 12, 12, 0, 12, 0, 0);
        for (int i = 20; i < 100; i++) {
            x.shut(i % 10, i / 10);
        }
        dueCounts("80 shut", x, 8, 12, 12, 12, 0, 12, 0, 80);
        due("round", lay(x, 11, "210"), 1);
        dueCounts("one alone", x, 8, 12, 12, 12, 1, 11, 0, 80);
        dueCounts("of each kind", kinds(), 0, 5, 4, 3, 1, 1, 1, 0);
    }

    /** "0: it had none, or there was none" */
    private static void statusAtFirst() {
        LineBundles x = new LineBundles();
        due("at first", x.status(), 0);
        x.sheet(8, 0, 0);
        due("after a refused one alone", x.status(), 0);
        x.point(0, 0);
        due("after another call", x.status(), 0);
    }

    private static void statusOfEachFinding() {
        LineBundles x = kinds();
        due("null", x.drop(0), NULL);
        due("1", x.status(), 1);
        x.sheet(0, 0, 1);
        due("place", x.set(0, 1, 0), PLACE);
        due("2", x.status(), 2);
        due("kind", x.as(0, 1), KIND);
        due("3", x.status(), 3);
        due("size", x.sheet(0, 0, -1), SIZE);
        due("4", x.status(), 4);
        x.sheet(1, 1, 1);
        due("store", x.copy(0, 0, 1, 0, 1), STORE);
        due("5", x.status(), 5);
        due("5 still", x.status(), 5);
        due("the latest", x.lay(0, 2, 0, 1), NULL);
        due("1 again", x.status(), 1);
    }

    /** "that was not BAD, STATE, FULL": such a call leaves what was there. */
    private static void statusOfRefused() {
        LineBundles x = kinds();
        x.sheet(0, 0, 1);
        x.sheet(1, 1, 1);
        x.copy(0, 0, 1, 0, 1);
        x.sheet(0, 3, -1);
        x.sheet(0, 0, 61);
        x.set(8, 0, 0);
        x.copy(0, 0, 8, 0, 0);
        x.copy(-1, 0, 0, 0, 0);
        x.drop(8);
        x.lay(4, 0, 0, 1);
        x.lay(0, 0, 0, 41);
        due("no way", x.lay(0, 0, 0, 1), BAD);
        x.as(0, 4);
        x.as(4, 0);
        due("no way", x.as(3, 0), STATE);
        due("5 still", x.status(), 5);
    }

    /** Calls without a SHEET, but as(), leave it, refused or not. */
    private static void statusOfOtherCalls() {
        LineBundles x = kinds();
        x.sheet(0, 0, -1);
        due("a point", x.point(5, 5), 5);
        due("no point", x.point(5, 5), STATE);
        due("shut", x.shut(9, 9), 1);
        due("no shut", x.shut(0, 0), STATE);
        due("open", x.open(9, 9), 1);
        due("a line", x.line(0, 1), 4);
        due("no line", x.line(0, 0), BAD);
        due("a rule", x.rule(0, 10), 10);
        due("no rule", x.rule(0, 0), BAD);
        x.lead(0);
        x.take(0);
        x.pass();
        x.rest();
        x.way(0, 0);
        x.width(0, 0, 0);
        x.all(0);
        x.detour(0);
        x.shared(0, 0);
        x.tint(0);
        x.reads(0, 1);
        x.kind(0);
        x.ask(0, 0);
        x.ask(9, 0);
        x.trace(0);
        x.count(0);
        due("4 still", x.status(), 4);
    }

    /** "0: it had none": each call with a SHEET, and as(), that found nothing. */
    private static void statusOfFineCalls() {
        LineBundles x = kinds();
        x.drop(5);
        due("sheet", x.sheet(0, 0, 3), 3);
        due("sheet: 0", x.status(), 0);
        x.drop(5);
        due("set", x.set(0, 0, 1), 1);
        due("set: 0", x.status(), 0);
        x.set(0, 1, 1);
        x.set(0, 2, 1);
        x.drop(5);
        due("copy", x.copy(0, 0, 0, 1, 1), 1);
        due("copy: 0", x.status(), 0);
        x.drop(5);
        due("lay", x.lay(1, 0, 0, 3), 1);
        due("lay: 0", x.status(), 0);
        x.drop(5);
        due("as", x.as(1, 2), 3);
        due("as: 0", x.status(), 0);
        x.drop(5);
        due("drop", x.drop(0), 3);
        due("drop: 0", x.status(), 0);
    }
}
