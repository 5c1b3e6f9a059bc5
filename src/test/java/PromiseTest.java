/** Each promise by hand: ordinary inputs, the edges that the document names, wrong inputs. */
public final class PromiseTest extends Hand {
    public static void main(String[] args) {
        promise1();
        promise2();
        promise3();
        promise4();
        promise5();
        promise6();
        promise7and8();
        promise9();
        promise10();
        promise11();
        promise11longest();
        promise12();
        promise13();
        promise14and15();
        promise16();
        promise17();
        promise18();
        promise18corner(0, 0);
        promise18corner(9, 0);
        promise18corner(0, 9);
        promise18corner(9, 9);
        promise19();
        promise20();
        promise21();
        promise21hard();
        promise21twelve();
        promise21twelveOnTwoSides();
        promise22();
        promise22back();
        promise22ring();
        promise23and24();
        promise25and26();
        promise27();
        promise28();
        DUE.end();
    }

    private static void promise1() {
        LineBundles x = new LineBundles();
        for (int what = 0; what <= 7; what++) {
            due("1 count", x.count(what), 0);
        }
        dueAll("1", x, 0, 0, 0, 0, 0, 0);
        due("1 status", x.status(), 0);
        due("1 trace", x.trace(0), NONE);
        for (int i = 0; i < 100; i++) {
            due("1 open", x.open(i % 10, i / 10), 0);
        }
        for (int i = 0; i < 8; i++) {
            due("1 missing", x.drop(i), NULL);
        }
        due("1 base", x.rule(0, 1), 10);
        due("1 save", x.rule(1, 0), 3);
    }

    private static void promise2() {
        LineBundles x = new LineBundles();
        due("2 none", x.sheet(0, 0, 0), 0);
        due("2 most", x.sheet(7, 2, 60), 60);
        due("2 count", x.count(0), 2);
        due("2 sheet below", x.sheet(-1, 0, 1), BAD);
        due("2 sheet above", x.sheet(8, 0, 1), BAD);
        due("2 lane below", x.sheet(0, -1, 1), BAD);
        due("2 lane above", x.sheet(0, 3, 1), BAD);
        due("2 n above", x.sheet(0, 0, 61), BAD);
        due("2 n far above", x.sheet(0, 0, MAX), BAD);
        due("2 bad ahead of size", x.sheet(0, 3, -1), BAD);
        due("2 size", x.sheet(7, 0, -1), SIZE);
        due("2 size far", x.sheet(7, 0, MIN), SIZE);
        due("2 size changed nothing", x.drop(7), 60);
        x.point(5, 5);
        x.point(5, 4);
        x.line(0, 1);
        x.sheet(1, 1, 2);
        x.set(1, 0, 2);
        due("2 in place of it", x.sheet(1, 0, 1), 1);
        due("2 of 1 item only", x.set(1, 1, 0), PLACE);
        due("2 the item is 0", x.lay(0, 1, 0, 1), 1);
        x.sheet(2, 2, 1);
        due("2 lane", x.set(2, 0, 300), 300);
        x.sheet(2, 0, 1);
        due("2 another lane", x.set(2, 0, 300), 44);
    }

    private static void promise3() {
        LineBundles x = new LineBundles();
        due("3 null", x.set(0, 0, 1), NULL);
        x.sheet(0, 0, 2);
        x.sheet(1, 1, 2);
        x.sheet(2, 2, 2);
        due("3 byte", x.set(0, 0, 127), 127);
        due("3 byte sign", x.set(0, 0, 128), -128);
        due("3 byte below", x.set(0, 1, -129), 127);
        due("3 byte wrap", x.set(0, 0, 256), 0);
        due("3 short", x.set(1, 0, 32767), 32767);
        due("3 short sign", x.set(1, 0, 32768), -32768);
        due("3 short wrap", x.set(1, 1, 65537), 1);
        due("3 int", x.set(2, 1, MIN), MIN);
        due("3 int above", x.set(2, 1, MAX), MAX);
        due("3 place below", x.set(0, -1, 0), PLACE);
        due("3 place above", x.set(0, 2, 0), PLACE);
        due("3 place far", x.set(0, MAX, 0), PLACE);
        due("3 place far below", x.set(0, MIN, 0), PLACE);
        due("3 bad", x.set(8, 0, 0), BAD);
        due("3 bad below", x.set(-1, 0, 0), BAD);
        x.sheet(3, 0, 0);
        due("3 none", x.set(3, 0, 0), PLACE);
    }

    private static void promise4() {
        LineBundles x = new LineBundles();
        x.sheet(0, 0, 6);
        due("4 null second", x.copy(0, 0, 1, 0, 1), NULL);
        due("4 null first", x.copy(1, 0, 0, 0, 1), NULL);
        due("4 null ahead of place", x.copy(1, -1, 0, -1, -1), NULL);
        x.sheet(1, 1, 6);
        due("4 store", x.copy(0, 0, 1, 0, 1), STORE);
        due("4 store ahead of place", x.copy(0, -1, 1, 9, -4), STORE);
        due("4 store of none", x.copy(0, 0, 1, 0, 0), STORE);
        due("4 bad first", x.copy(8, 0, 0, 0, 0), BAD);
        due("4 bad second", x.copy(0, 0, -1, 0, 0), BAD);
        due("4 bad ahead of null", x.copy(5, 0, 8, 0, 0), BAD);
        x.sheet(1, 0, 4);
        due("4 i below", x.copy(0, -1, 1, 0, 1), PLACE);
        due("4 j below", x.copy(0, 0, 1, -1, 1), PLACE);
        due("4 n below", x.copy(0, 0, 1, 0, -1), PLACE);
        due("4 i beyond", x.copy(0, 6, 1, 0, 1), PLACE);
        due("4 j beyond", x.copy(0, 0, 1, 1, 4), PLACE);
        due("4 none beyond", x.copy(0, 7, 1, 0, 0), PLACE);
        due("4 far", x.copy(0, MAX, 1, 0, MAX), PLACE);
        due("4 far j", x.copy(0, 1, 1, MAX, 2), PLACE);
        due("4 none at the end", x.copy(0, 6, 1, 4, 0), 0);
        due("4 some", x.copy(0, 2, 1, 0, 4), 4);
        x.point(5, 5);
        x.point(7, 6);
        x.line(0, 1);
        x.set(0, 0, 1);
        x.set(0, 1, 2);
        x.set(0, 2, 1);
        due("4 onward over itself", x.copy(0, 0, 0, 1, 3), 3);
        due("4 as they were", x.lay(0, 0, 1, 3), 1);
        dueWay("4", x, 0, "121");
        due("4 back over itself", x.copy(0, 1, 0, 0, 3), 3);
        due("4 as they were back", x.lay(0, 0, 0, 3), 1);
        due("4 to another", x.copy(0, 0, 1, 1, 3), 3);
        due("4 it is there", x.lay(0, 1, 1, 3), 1);
    }

    private static void promise5() {
        LineBundles x = new LineBundles();
        due("5 null", x.drop(3), NULL);
        x.sheet(3, 1, 17);
        due("5 items", x.drop(3), 17);
        due("5 again", x.drop(3), NULL);
        due("5 count", x.count(0), 0);
        due("5 gone", x.set(3, 0, 0), NULL);
        x.sheet(3, 1, 0);
        due("5 none", x.drop(3), 0);
        due("5 bad", x.drop(8), BAD);
        due("5 bad below", x.drop(-1), BAD);
    }

    private static void promise6() {
        LineBundles x = new LineBundles();
        due("6 bad x", x.point(-1, 0), BAD);
        due("6 bad y", x.point(0, 10), BAD);
        x.shut(9, 9);
        due("6 shut", x.point(9, 9), STATE);
        x.open(9, 9);
        due("6 first", x.point(9, 9), 0);
        due("6 has one", x.point(9, 9), STATE);
        for (int i = 1; i < 12; i++) {
            due("6 next", x.point((i - 1) % 10, (i - 1) / 10), i);
        }
        due("6 full", x.point(5, 5), FULL);
        due("6 state ahead of full", x.point(0, 0), STATE);
        due("6 bad ahead of full", x.point(10, 0), BAD);
        due("6 count", x.count(1), 12);
    }

    private static void promise7and8() {
        LineBundles x = new LineBundles();
        due("7 bad", x.shut(-1, 5), BAD);
        due("7 bad y", x.shut(5, 10), BAD);
        due("8 bad", x.open(10, 5), BAD);
        due("8 bad y", x.open(5, -1), BAD);
        due("7 shut", x.shut(9, 0), 1);
        due("7 again", x.shut(9, 0), 0);
        due("7 count", x.count(7), 1);
        due("8 open", x.open(9, 0), 1);
        due("8 again", x.open(9, 0), 0);
        due("8 count", x.count(7), 0);
        x.point(0, 0);
        x.point(2, 1);
        due("7 point", x.shut(0, 0), STATE);
        x.line(0, 1);
        due("7 way", lay(x, 0, "112"), 1);
        due("7 gone through", x.shut(1, 0), STATE);
        due("7 gone through at a turn", x.shut(2, 0), STATE);
        due("7 beside", x.shut(1, 1), 1);
        due("8 a point's", x.open(0, 0), 0);
        x.take(0);
        due("7 free", x.shut(1, 0), 1);
    }

    private static void promise9() {
        LineBundles x = new LineBundles();
        x.point(1, 1);
        x.point(2, 2);
        due("9 bad", x.line(0, 2), BAD);
        due("9 bad below", x.line(-1, 0), BAD);
        due("9 same", x.line(1, 1), BAD);
        for (int i = 0; i < 12; i++) {
            due("9 next", x.line(i % 2, 1 - i % 2), i);
        }
        due("9 no way", x.way(0, -1), 0);
        due("9 full", x.line(0, 1), FULL);
        due("9 bad ahead of full", x.line(0, 0), BAD);
        due("9 count", x.count(2), 12);
        due("9 count of ways", x.count(3), 0);
    }

    private static void promise10() {
        LineBundles x = new LineBundles();
        due("10 what", x.rule(-1, 5), BAD);
        due("10 what above", x.rule(2, 5), BAD);
        due("10 base below", x.rule(0, 0), BAD);
        due("10 base above", x.rule(0, 101), BAD);
        due("10 save below", x.rule(1, -1), BAD);
        due("10 save above", x.rule(1, 51), BAD);
        due("10 base", x.rule(0, 100), 10);
        due("10 base least", x.rule(0, 1), 100);
        due("10 save", x.rule(1, 50), 3);
        due("10 save least", x.rule(1, 0), 50);
        due("10 base was", x.rule(0, 20), 1);
        due("10 save was", x.rule(1, 3), 0);
        x.point(0, 0);
        x.point(1, 0);
        x.line(0, 1);
        x.line(0, 1);
        lay(x, 0, "1");
        lay(x, 1, "210");
        due("10 cost", x.all(0), 80);
        x.rule(0, 7);
        due("10 cost by the new rule", x.all(0), 28);
        dueWay("10 ways stay", x, 1, "210");
    }

    private static void promise11() {
        LineBundles x = new LineBundles();
        due("11 bad", x.lead(0), BAD);
        x.point(2, 2);
        x.point(4, 4);
        x.line(0, 1);
        x.line(1, 0);
        due("11 bad above", x.lead(2), BAD);
        due("11 bad below", x.lead(-1), BAD);
        due("11 cost", x.lead(0), 40);
        dueWay("11 least directions", x, 0, "1122");
        due("11 shared", x.lead(1), 28);
        dueWay("11 along it", x, 1, "0033");
        due("11 anew", x.lead(0), 28);
        dueWay("11 anew", x, 0, "1122");
        x.rule(1, 10);
        due("11 1 at least", x.lead(1), 4);
        x.rule(1, 0);
        due("11 no saving", x.lead(1), 40);
        dueWay("11 no saving", x, 1, "0033");
        x.take(1);
        x.rule(0, 100);
        x.rule(1, 50);
        due("11 laid round", lay(x, 0, "01112223"), 1);
        due("11 as dear as the long one", x.lead(1), 400);
        dueWay("11 fewest sides", x, 1, "0033");
        x.take(1);
        x.rule(0, 99);
        due("11 cheaper by sharing", x.lead(1), 8 * 49);
        dueWay("11 longer, but cheaper", x, 1, "10003332");
        x.take(0);
        x.take(1);
        x.shut(2, 1);
        x.shut(1, 2);
        x.shut(3, 2);
        x.shut(2, 3);
        due("11 shut in", x.lead(0), NONE);
        due("11 shut out", x.lead(1), NONE);
        due("11 none", x.way(0, -1), 0);
    }

    /** The longest WAY there can be: by all 100 places, along two LINES all the way. */
    private static void promise11longest() {
        LineBundles x = new LineBundles();
        String snake = "";
        for (int y = 0; y < 10; y++) {
            snake += (y % 2 == 0 ? "111111111" : "333333333") + (y < 9 ? "2" : "");
        }
        x.point(0, 0);
        x.point(6, 3);
        x.point(6, 6);
        x.point(0, 9);
        for (int i = 0; i < 6; i++) {
            x.line(i % 3, i % 3 + 1);
            due("11 a third", lay(x, i, snake.substring(i % 3 * 33, i % 3 * 33 + 33)), 1);
        }
        x.rule(0, 100);
        x.rule(1, 50);
        x.line(0, 3);
        due("11 longest, at 1 each", x.lead(6), 99);
        dueWay("11 longest", x, 6, snake);
        due("11 longest, detour", x.detour(6), 1100);
        due("11 longest, at rest", x.pass(), 0);
    }

    private static void promise12() {
        LineBundles x = new LineBundles();
        x.point(0, 0);
        x.point(2, 0);
        x.line(0, 1);
        due("12 line", x.lay(1, 0, 0, 1), BAD);
        due("12 line below", x.lay(-1, 0, 0, 1), BAD);
        due("12 sheet", x.lay(0, 8, 0, 1), BAD);
        due("12 sheet below", x.lay(0, -1, 0, 1), BAD);
        due("12 n below", x.lay(0, 0, 0, 0), BAD);
        due("12 n above", x.lay(0, 0, 0, 41), BAD);
        due("12 null", x.lay(0, 0, 99, 40), NULL);
        x.sheet(0, 2, 60);
        due("12 place below", x.lay(0, 0, -1, 2), PLACE);
        due("12 place above", x.lay(0, 0, 59, 2), PLACE);
        due("12 place far", x.lay(0, 0, MAX, 2), PLACE);
        due("12 over the edge", lay(x, 0, "0"), BAD);
        due("12 over the left edge", lay(x, 0, "311"), BAD);
        due("12 not there", lay(x, 0, "1"), BAD);
        due("12 beyond it", lay(x, 0, "111"), BAD);
        due("12 by it and back", lay(x, 0, "1113"), BAD);
        due("12 back and forth", lay(x, 0, "1311"), BAD);
        due("12 round to its start", lay(x, 0, "123011"), BAD);
        due("12 no direction", lay(x, 0, "14"), BAD);
        x.set(7, 0, -1);
        due("12 no direction below", x.lay(0, 7, 0, 1), BAD);
        due("12 no way yet", x.way(0, -1), 0);
        due("12 way", lay(x, 0, "11"), 1);
        due("12 refused", lay(x, 0, "1"), BAD);
        dueWay("12 it stays", x, 0, "11");
        due("12 instead", lay(x, 0, "2110"), 1);
        dueWay("12 instead", x, 0, "2110");
        due("12 the old one is off", x.width(0, 0, 1), 0);
        x.shut(1, 0);
        due("12 shut", lay(x, 0, "11"), BAD);
        due("12 round twice", lay(x, 0, "21032110"), BAD);
        x.open(1, 0);
        String most = "222222222" + "111111111" + "000000000" + "3230" + "3230" + "3230" + "3";
        due("12 40 of them", most.length(), 40);
        due("12 longest", lay(x, 0, most), 1);
        dueWay("12 longest", x, 0, most);
        due("12 too long", lay(x, 0, most + "3"), BAD);
        dueWay("12 too long", x, 0, most);
        x.line(1, 0);
        due("12 no direction, to the first place", lay(x, 1, "4"), BAD);
        due("12 no direction at the end", lay(x, 1, "34"), BAD);
        due("12 to the first place", lay(x, 1, "33"), 1);
    }

    private static void promise13() {
        LineBundles x = new LineBundles();
        due("13 bad", x.take(0), BAD);
        x.point(0, 0);
        x.point(1, 0);
        x.line(0, 1);
        due("13 none", x.take(0), 0);
        x.lead(0);
        due("13 it had", x.take(0), 1);
        due("13 off", x.width(0, 0, 1), 0);
        due("13 no way", x.way(0, -1), 0);
        due("13 again", x.take(0), 0);
        due("13 bad below", x.take(-1), BAD);
        due("13 bad above", x.take(1), BAD);
    }

    private static void promise14and15() {
        LineBundles x = new LineBundles();
        due("14 none", x.pass(), 0);
        due("15 none", x.rest(), 0);
        x.point(0, 0);
        x.point(4, 0);
        x.point(0, 1);
        x.point(4, 1);
        x.line(0, 1);
        x.line(2, 3);
        due("14 both get ways", x.pass(), 2);
        dueWay("14 straight", x, 0, "1111");
        dueWay("14 straight", x, 1, "1111");
        due("14 as dear", x.all(0), 80);
        due("14 at rest", x.pass(), 0);
        x.rule(1, 9);
        due("14 first along the second", x.pass(), 1);
        dueWay("14 led along", x, 0, "211110");
        dueWay("14 stays", x, 1, "1111");
        due("14 cost fell", x.all(0), 64);
        due("15 at rest", x.rest(), 0);
        x.rule(1, 3);
        due("15 it goes back", x.rest(), 1);
        dueWay("15 back", x, 0, "1111");
        due("15 cost", x.all(0), 80);
        lay(x, 0, "211110");
        x.rule(1, 5);
        due("14 equal cost stays", x.all(0), 80);
        due("14 equal cost: none", x.pass(), 0);
        dueWay("14 equal cost", x, 0, "211110");
        x.take(1);
        due("14 the one without", x.pass(), 2);
        due("15 rest", x.rest(), 0);
        x.point(9, 9);
        x.shut(8, 9);
        x.shut(9, 8);
        x.line(0, 4);
        due("14 no way for it", x.pass(), 0);
        due("15 no way for it", x.rest(), 0);
        x.open(9, 8);
        x.rule(1, 0);
        due("15 now there is", x.rest(), 1);
        due("15 sides", x.way(2, -1), 18);
    }

    private static void promise16() {
        LineBundles x = new LineBundles();
        due("16 bad", x.way(0, 0), BAD);
        x.point(0, 0);
        x.point(2, 0);
        x.line(0, 1);
        due("16 none", x.way(0, -1), 0);
        due("16 no first", x.way(0, 0), NONE);
        x.lead(0);
        due("16 how many", x.way(0, -1), 2);
        due("16 first", x.way(0, 0), 1);
        due("16 last", x.way(0, 1), 1);
        due("16 beyond", x.way(0, 2), NONE);
        due("16 far", x.way(0, MAX), NONE);
        due("16 below", x.way(0, -2), BAD);
        due("16 far below", x.way(0, MIN), BAD);
        due("16 line", x.way(1, 0), BAD);
        due("16 line below", x.way(-1, 0), BAD);
    }

    private static void promise17() {
        LineBundles x = new LineBundles();
        x.point(8, 9);
        x.point(9, 8);
        x.line(0, 1);
        x.line(1, 0);
        lay(x, 0, "10");
        lay(x, 1, "23");
        due("17 both", x.width(8, 9, 1), 2);
        due("17 from the other end", x.width(9, 9, 3), 2);
        due("17 upward", x.width(9, 9, 0), 2);
        due("17 downward", x.width(9, 8, 2), 2);
        due("17 free", x.width(8, 9, 0), 0);
        due("17 beyond right", x.width(9, 9, 1), 0);
        due("17 beyond below", x.width(9, 9, 2), 0);
        due("17 beyond left", x.width(0, 5, 3), 0);
        due("17 beyond above", x.width(5, 0, 0), 0);
        due("17 bad x", x.width(10, 0, 0), BAD);
        due("17 bad y", x.width(0, -1, 0), BAD);
        due("17 bad direction", x.width(0, 0, 4), BAD);
        due("17 bad direction below", x.width(0, 0, -1), BAD);
        x.take(0);
        due("17 one", x.width(8, 9, 1), 1);
    }

    private static void promise18() {
        LineBundles x = new LineBundles();
        due("18 bad", x.all(-1), BAD);
        due("18 bad above", x.all(6), BAD);
        x.point(0, 5);
        x.point(9, 5);
        x.point(5, 0);
        x.point(5, 9);
        x.line(0, 1);
        x.line(1, 0);
        x.line(2, 3);
        x.line(3, 2);
        x.line(0, 3);
        x.lead(0);
        x.lead(1);
        x.rule(1, 0);
        x.lead(2);
        x.lead(3);
        x.rule(1, 3);
        dueAll("18 two by two", x, 18 * 17, 18, 2, 0, 4, 36);
        due("18 a fifth", lay(x, 4, "111112222"), 1);
        // It parts from the level ones at the middle, and from the upright ones there too.
        dueAll("18 five", x, 18 * 17 + 9 * 4, 18, 3, 1, 4, 45);
        x.rule(0, 1);
        dueAll("18 one each", x, 45);
        x.rule(0, 4);
        dueAll("18 never below one", x, 18 * 5 + 9);
        x.take(1);
        x.take(0);
        dueAll("18 a fork at the middle", x, 5 * 4 + 5 * 5 + 4 * 6, 14, 3, 1, 0, 27);
    }

    /** One LINE begins in a corner of THE BOARD, another one goes through it and along the first one. */
    private static void promise18corner(int cx, int cy) {
        LineBundles x = new LineBundles();
        int upright = cy == 0 ? 2 : 0, level = cx == 0 ? 1 : 3;
        x.point(cx, cy);
        x.point(cx, cy == 0 ? 1 : 8);
        x.point(cx == 0 ? 1 : 8, cy);
        x.line(0, 1);
        x.line(2, 1);
        due("18 corner, lay", lay(x, 0, "" + upright), 1);
        due("18 corner, lay through it", lay(x, 1, "" + (level + 2) % 4 + upright), 1);
        dueAll("18 corner", x, 27, 2, 2, 1, 0, 3);
        for (int d = 0; d < 4; d++) {
            due("18 corner's width " + d, x.width(cx, cy, d), d == upright ? 2 : d == level ? 1 : 0);
        }
        due("18 corner, shared", x.shared(0, 1), 1);
        due("18 corner, kind", x.kind(0), 2);
        due("18 corner, kind of the other", x.kind(1), 3);
        due("18 corner, mark", x.ask(1, 1), 10 + 7 + 1);
        due("18 corner, tints", x.tint(NONE), 2);
        due("18 corner, tint", x.tint(1), 1);
        due("18 corner, led", x.lead(1), 17);
        dueWay("18 corner, led", x, 1, "" + (level + 2) % 4 + upright);
    }

    private static void promise19() {
        LineBundles x = new LineBundles();
        due("19 bad", x.detour(0), BAD);
        x.point(0, 0);
        x.point(2, 1);
        x.line(1, 0);
        due("19 state", x.detour(0), STATE);
        x.lead(0);
        due("19 straight", x.detour(0), 100);
        lay(x, 0, "23300");
        due("19 cut", x.detour(0), 166);
        due("19 bad above", x.detour(1), BAD);
        due("19 bad below", x.detour(-1), BAD);
    }

    private static void promise20() {
        LineBundles x = new LineBundles();
        due("20 bad", x.shared(0, 0), BAD);
        x.point(0, 0);
        x.point(3, 0);
        x.point(1, 1);
        x.line(0, 1);
        x.line(1, 0);
        x.line(0, 2);
        lay(x, 0, "111");
        due("20 without", x.shared(0, 1), 0);
        due("20 without its own", x.shared(1, 1), 0);
        lay(x, 1, "23033");
        lay(x, 2, "12");
        due("20 shared", x.shared(0, 1), 2);
        due("20 the other way round", x.shared(1, 0), 2);
        due("20 of three", x.shared(0, 2), 1);
        due("20 opposite ways", x.shared(2, 1), 1);
        due("20 alike", x.shared(1, 1), 5);
        due("20 bad second", x.shared(0, 3), BAD);
        due("20 bad first", x.shared(-1, 0), BAD);
    }

    private static void promise21() {
        LineBundles x = new LineBundles();
        due("21 none", x.tint(NONE), 0);
        due("21 bad", x.tint(0), BAD);
        due("21 bad below", x.tint(-1), BAD);
        x.point(0, 0);
        x.point(9, 0);
        x.point(0, 9);
        x.line(0, 1);
        x.line(0, 2);
        x.line(1, 0);
        due("21 no way", x.tint(1), NONE);
        due("21 still none", x.tint(NONE), 0);
        x.lead(0);
        x.lead(2);
        due("21 two", x.tint(NONE), 2);
        due("21 first", x.tint(0), 0);
        due("21 between without", x.tint(1), NONE);
        due("21 second", x.tint(2), 1);
        x.lead(1);
        due("21 apart", x.tint(1), 0);
        due("21 still two", x.tint(NONE), 2);
        due("21 bad above", x.tint(3), BAD);
        due("21 bad far below", x.tint(BAD), BAD);
    }

    /** The first that fits for each LINE would need three TINTS: 0 and 1 are apart, 0-2-3-1 is a chain. */
    private static void promise21hard() {
        LineBundles x = new LineBundles();
        x.point(0, 0);
        x.point(2, 0);
        x.point(1, 0);
        x.point(4, 0);
        x.point(3, 0);
        x.point(6, 0);
        x.point(5, 0);
        x.point(7, 0);
        x.line(0, 1);
        x.line(6, 7);
        x.line(2, 3);
        x.line(4, 5);
        x.rest();
        due("21 shares", x.shared(0, 2) + x.shared(2, 3) + x.shared(3, 1), 3);
        due("21 others do not", x.shared(0, 3) + x.shared(0, 1) + x.shared(1, 2), 0);
        due("21 as few as can be", x.tint(NONE), 2);
        due("21 of 0", x.tint(0), 0);
        due("21 of 1", x.tint(1), 1);
        due("21 of 2", x.tint(2), 1);
        due("21 of 3", x.tint(3), 0);
    }

    /** As many TINTS as there can be LINES, all by one SIDE; then fewer, one by one. */
    private static void promise21twelve() {
        LineBundles x = new LineBundles();
        x.point(0, 0);
        x.point(1, 0);
        for (int i = 0; i < 12; i++) {
            x.line(i % 2, 1 - i % 2);
            x.lead(i);
            due("21 one more", x.tint(NONE), i + 1);
            due("21 of the last", x.tint(i), i);
        }
        due("21 by one side", x.all(2), 12);
        dueTints("21 twelve", x, 0, 1, 2, 3, 4, 5, 6, 7, 8, 9, 10, 11);
        x.take(4);
        dueTints("21 eleven", x, 0, 1, 2, 3, NONE, 4, 5, 6, 7, 8, 9, 10);
        lay(x, 4, "210");
        dueTints("21 one apart", x, 0, 1, 2, 3, 0, 4, 5, 6, 7, 8, 9, 10);
        for (int i = 0; i < 12; i++) {
            x.take(i);
        }
        due("21 none again", x.tint(NONE), 0);
    }

    /** Twelve LINES, any two of which share a SIDE, though none has all: more TINTS than the greatest WIDTH. */
    private static void promise21twelveOnTwoSides() {
        LineBundles x = new LineBundles();
        x.point(0, 0);
        x.point(2, 0);
        x.point(1, 1);
        for (int i = 0; i < 11; i++) {
            x.line(0, i < 6 ? 1 : 2);
            due("21 lay", lay(x, i, i < 6 ? "11" : "12"), 1);
        }
        x.line(1, 2);
        due("21 lay the last", lay(x, 11, "32"), 1);
        due("21 no side has all", x.all(2), 11);
        dueTints("21 twelve, any two sharing", x, 0, 1, 2, 3, 4, 5, 6, 7, 8, 9, 10, 11);
    }

    private static void promise22() {
        LineBundles x = new LineBundles();
        due("22 bad", x.reads(0, 0), BAD);
        x.point(0, 5);
        x.point(9, 5);
        x.point(5, 2);
        x.point(5, 8);
        x.point(7, 5);
        x.line(0, 3);
        x.line(2, 1);
        due("22 state", x.reads(0, 1), STATE);
        due("22 beyond the edge", x.reads(0, 3), STATE);
        due("22 bad direction", x.reads(0, 4), BAD);
        due("22 bad direction below", x.reads(0, -1), BAD);
        due("22 bad point", x.reads(5, 0), BAD);
        due("22 bad point below", x.reads(-1, 0), BAD);
        lay(x, 0, "11111222");
        due("22 round the corner, right", x.reads(0, 1), 3);
        due("22 round the corner, left", x.reads(3, 0), 0);
        lay(x, 1, "2221111");
        due("22 straight on, by a point of no line", x.reads(0, 1), 1);
        due("22 straight on down", x.reads(2, 2), 3);
        due("22 straight on back", x.reads(1, 3), 0);
        due("22 straight on up", x.reads(3, 0), 2);
        x.line(4, 1);
        due("22 a line without a way ends none", x.reads(0, 1), 1);
        x.lead(2);
        due("22 a line with a way does", x.reads(0, 1), 4);
        due("22 from there", x.reads(4, 3), 0);
        x.take(0);
        x.shut(5, 6);
        due("22 right ahead of left", x.reads(2, 2), 4);
        lay(x, 1, "2221111");
        x.point(5, 5);
        x.line(0, 5);
        lay(x, 3, "11111");
        due("22 a line ends at the fork", x.reads(2, 2), 5);
        due("22 a line ends at the fork, left", x.reads(0, 1), 5);
        x.take(3);
        due("22 left, where right has none", x.reads(2, 2), 4);
    }

    /** A stem with a loop, left at its sides alone: the reader comes back to where it began. */
    private static void promise22back() {
        LineBundles x = new LineBundles();
        x.point(0, 5);
        x.point(4, 8);
        x.point(8, 4);
        x.point(4, 0);
        x.line(0, 1);
        x.line(1, 2);
        x.line(2, 3);
        x.line(3, 0);
        due("22 stem and first side", lay(x, 0, "1111222"), 1);
        due("22 second side", lay(x, 1, "00010111"), 1);
        due("22 third side", lay(x, 2, "33303000"), 1);
        due("22 fourth side and stem", lay(x, 3, "222322333"), 1);
        due("22 no more to go at its start", x.reads(0, 1), 0);
        due("22 into the loop by the right", x.reads(1, 0), 0);
        due("22 into the loop later on", x.reads(2, 3), 0);
    }

    /** A ring with a stem behind each corner: who goes round by the right never leaves it. */
    private static void promise22ring() {
        LineBundles x = new LineBundles();
        x.point(6, 0);
        x.point(9, 6);
        x.point(3, 9);
        x.point(0, 3);
        x.line(0, 1);
        x.line(1, 2);
        x.line(2, 3);
        x.line(3, 0);
        due("22 right leg", lay(x, 0, "222222111"), 1);
        due("22 lower leg", lay(x, 1, "333333222"), 1);
        due("22 left leg", lay(x, 2, "000000333"), 1);
        due("22 upper leg", lay(x, 3, "111111000"), 1);
        due("22 100 sides", x.reads(0, 2), NONE);
        due("22 the point at the end", x.point(6, 4), 4);
        due("22 100 sides, to a point", x.reads(0, 2), 4);
        due("22 a point on the ring", x.point(5, 3), 5);
        x.line(5, 1);
        due("22 it ends no reading yet", x.reads(0, 2), 4);
        due("22 a way from there", lay(x, 4, "1222111"), 1);
        due("22 now it does", x.reads(0, 2), 5);
        due("22 never at its start, when it comes again", x.reads(5, 1), NONE);
    }

    private static void promise23and24() {
        LineBundles x = new LineBundles();
        due("23 bad", x.kind(0), BAD);
        due("24 bad", x.as(0, 0), BAD);
        x.point(0, 0);
        x.point(3, 0);
        x.point(2, 0);
        x.line(0, 1);
        x.line(0, 2);
        due("23 none", x.kind(0), NONE);
        due("24 state", x.as(0, 1), STATE);
        due("24 bad ahead of state", x.as(0, 4), BAD);
        x.lead(0);
        due("23 alone", x.kind(0), 1);
        due("24 alone", x.as(0, 1), 3);
        due("24 line", x.as(0, 0), 3);
        due("24 not bound", x.as(0, 2), KIND);
        due("24 not forked", x.as(0, 3), KIND);
        x.lead(1);
        due("23 forked", x.kind(0), 3);
        due("23 bound", x.kind(1), 2);
        due("24 forked", x.as(0, 3), 3);
        due("24 bound", x.as(1, 2), 2);
        due("24 no more alone", x.as(0, 1), KIND);
        due("24 forked is not bound", x.as(0, 2), KIND);
        due("24 bound is not forked", x.as(1, 3), KIND);
        due("24 bound is a line", x.as(1, 0), 2);
        due("24 kind below", x.as(0, -1), BAD);
        due("24 line above", x.as(2, 0), BAD);
        due("23 line above", x.kind(2), BAD);
        due("23 line below", x.kind(-1), BAD);
    }

    private static void promise25and26() {
        LineBundles x = new LineBundles();
        due("25 bad", x.ask(0, 0), BAD);
        dueTrace("26 at first", x);
        x.point(0, 0);
        x.point(3, 0);
        x.point(2, 0);
        x.line(0, 1);
        x.line(0, 2);
        due("25 state", x.ask(0, 0), STATE);
        lay(x, 0, "21110");
        due("25 size, alone", x.ask(0, 0), 5 + 166);
        dueTrace("25 size, alone", x, 11, 10);
        due("25 mark, alone", x.ask(0, 1), 50);
        dueTrace("25 mark, alone", x, 20);
        due("25 state keeps the trace", x.ask(1, 0), STATE);
        due("25 bad keeps the trace", x.ask(0, 2), BAD);
        due("25 bad below keeps the trace", x.ask(0, -1), BAD);
        due("25 bad line keeps the trace", x.ask(2, 0), BAD);
        dueTrace("25 kept", x, 20);
        lay(x, 1, "2110");
        due("25 size, forked", x.ask(0, 0), 5 + (7 * 3 + 10 * 2 + 3));
        dueTrace("25 size, forked", x, 13, 10, 22, 20);
        due("25 mark, forked", x.ask(0, 1), 7 * 3 + 10 * 2 + 3);
        dueTrace("25 mark, forked", x, 22, 20);
        lay(x, 0, "111");
        lay(x, 1, "11");
        due("25 size, bound", x.ask(1, 0), 4);
        dueTrace("25 size, bound", x, 12, 10);
        due("25 mark, bound", x.ask(1, 1), 14 + 4);
        dueTrace("25 mark, bound", x, 21, 20, 12, 10);
        due("26 below", x.trace(-1), NONE);
        due("26 far", x.trace(MAX), NONE);
        due("26 far below", x.trace(MIN), NONE);
        due("26 sixteenth", x.trace(15), NONE);
        x.rule(0, 100);
        x.rule(1, 50);
        due("25 by the rules", x.ask(1, 1), 100 + 4);
    }

    private static void promise27() {
        LineBundles x = new LineBundles();
        due("27 bad", x.count(8), BAD);
        due("27 bad below", x.count(-1), BAD);
        x.sheet(0, 0, 0);
        x.sheet(5, 1, 3);
        x.sheet(5, 2, 4);
        due("27 sheets", x.count(0), 2);
        x.drop(0);
        due("27 sheets less", x.count(0), 1);
        x.point(0, 0);
        x.point(3, 0);
        x.point(2, 0);
        x.point(0, 9);
        due("27 points", x.count(1), 4);
        x.line(0, 1);
        x.line(0, 2);
        x.line(0, 3);
        x.line(3, 0);
        due("27 lines", x.count(2), 4);
        due("27 ways", x.count(3), 0);
        x.lead(0);
        x.lead(1);
        x.lead(2);
        due("27 ways", x.count(3), 3);
        due("27 alone", x.count(4), 1);
        due("27 bound", x.count(5), 1);
        due("27 forked", x.count(6), 1);
        x.shut(9, 9);
        x.shut(9, 8);
        due("27 shut", x.count(7), 2);
        x.take(1);
        due("27 alone more", x.count(4), 2);
        due("27 bound less", x.count(5), 0);
        due("27 forked less", x.count(6), 0);
    }

    private static void promise28() {
        LineBundles x = new LineBundles();
        x.set(0, 0, 0);
        due("28 null", x.status(), 1);
        due("28 asked again", x.status(), 1);
        x.sheet(0, 0, 61);
        due("28 bad keeps it", x.status(), 1);
        x.sheet(0, 0, 1);
        due("28 fine", x.status(), 0);
        x.set(0, 1, 0);
        due("28 place", x.status(), 2);
        x.sheet(0, 0, -1);
        due("28 size", x.status(), 4);
        x.sheet(1, 1, 1);
        due("28 fine again", x.status(), 0);
        x.copy(0, 0, 1, 0, 1);
        due("28 store", x.status(), 5);
        x.point(0, 0);
        x.point(1, 0);
        x.line(0, 1);
        x.lead(0);
        due("28 others keep it", x.status(), 5);
        x.as(0, 2);
        due("28 kind", x.status(), 3);
        x.as(0, 4);
        due("28 bad as keeps it", x.status(), 3);
        x.take(0);
        x.as(0, 1);
        due("28 state keeps it", x.status(), 3);
        x.lay(0, 0, 0, 1);
        due("28 bad way keeps it", x.status(), 3);
        x.lay(0, 5, 0, 1);
        due("28 null of lay", x.status(), 1);
        x.lay(0, 0, 1, 1);
        due("28 place of lay", x.status(), 2);
        x.drop(5);
        due("28 null of drop", x.status(), 1);
        x.set(0, 0, 1);
        due("28 set", x.status(), 0);
        x.drop(5);
        x.lay(0, 0, 0, 1);
        due("28 lay", x.status(), 0);
        x.drop(5);
        x.as(0, 1);
        due("28 as", x.status(), 0);
        x.drop(5);
        x.copy(0, 0, 0, 0, 1);
        due("28 copy", x.status(), 0);
        x.copy(0, 0, 0, 0, 2);
        due("28 place of copy", x.status(), 2);
        x.drop(1);
        due("28 drop", x.status(), 0);
        x.copy(0, 0, 1, 0, 1);
        due("28 null of copy", x.status(), 1);
    }
}
