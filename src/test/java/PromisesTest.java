/** One test or more for each promise of the document: ordinary inputs, edges, wrong inputs. */
public final class PromisesTest extends Checks {
    public static void main(String[] args) {
        about("promise 1");
        newObject();
        about("promise 2");
        lay();
        about("promise 3");
        wire();
        about("promise 4");
        key();
        about("promise 5");
        thing();
        about("promise 6");
        top();
        about("promise 7");
        hole();
        about("promise 8");
        set();
        about("promise 9");
        seed();
        about("promise 10");
        feed();
        about("promise 11");
        program();
        values();
        about("promise 12");
        fault();
        about("promise 13");
        force();
        about("promise 14");
        tells();
        about("promise 15");
        attempt();
        steps();
        about("promise 16");
        record();
        about("promise 17");
        hand();
        about("promise 18");
        play();
        about("promise 19");
        can();
        about("promise 20");
        odds();
        about("promise 21");
        weights();
        about("promise 22");
        when();
        about("promise 23");
        fitting();
        about("promise 24");
        strange();
        about("promise 25");
        guess();
        about("promise 26");
        refill();
        about("promise 27");
        worth();
        about("promise 28");
        bide();
        about("promise 29");
        settle();
        about("promise 30");
        back();
        about("promise 31");
        broken();
        about("promise 32");
        cut();
        about("promise 33");
        player();
        about("promise 34");
        fair();
        about("promise 35");
        image();
        about("promise 36");
        restore();
        about("promise 37");
        count();
        end();
    }

    private static void newObject() {
        ClawBoxes x = new ClawBoxes();
        due("NONE", ClawBoxes.NONE, -1);
        for (int what = 0; what <= 12; what++) {
            due("count(" + what + ")", x.count(what), what == 5 ? 1 : 0);
        }
        due("seed", x.count(13), 1);
        due("force(-1)", x.force(NONE), NONE);
        due("fault()", x.fault(), NONE);
        for (int cell = 0; cell < 64; cell++) {
            due("top", x.top(cell, false), NONE);
            due("height", x.top(cell, true), 0);
        }
        refused(NO_SUCH, "thing(0, 0)", () -> x.thing(0, 0));
        refused(NO_SUCH, "record(0, 0)", () -> x.record(0, 0));
    }

    private static void lay() {
        ClawBoxes x = new ClawBoxes();
        due("least", x.lay(0, 1, 0, 0), 0);
        due("most", x.lay(62, 99, 7, 999), 1);
        due("weight", x.thing(1, 2), 99);
        due("lock", x.thing(1, 3), 7);
        due("value", x.thing(1, 4), 999);
        due("on top", x.lay(0, 5, 1, 2), 2);
        due("top", x.top(0, false), 2);
        refused(CELL, "cell -1", () -> x.lay(-1, 1, 0, 0));
        refused(CELL, "cell 64 ahead of all", () -> x.lay(64, 0, 9, -1));
        refused(WRONG, "hole", () -> x.lay(63, 1, 0, 0));
        refused(WRONG, "weight 0", () -> x.lay(1, 0, 0, 0));
        refused(WRONG, "weight 100", () -> x.lay(1, 100, 0, 0));
        refused(WRONG, "lock -1", () -> x.lay(1, 1, -1, 0));
        refused(WRONG, "lock 8", () -> x.lay(1, 1, 8, 0));
        refused(WRONG, "value -1", () -> x.lay(1, 1, 0, -1));
        refused(WRONG, "value 1000", () -> x.lay(1, 1, 0, 1000));
        due("none was laid", x.count(0), 3);
        for (int i = 3; i < 24; i++) {
            due("lay", x.lay(i, 1, 0, 0), i);
        }
        due("25th", x.lay(1, 1, 0, 0), -1);
        due("24", x.count(0), 24);
        refused(WRONG, "25th, weight", () -> x.lay(1, 0, 0, 0));
        x.hole(40);
        due("one taken makes no room", x.key(0), 1);
        due("25th again", x.lay(63, 1, 0, 0), -1);
        refused(WRONG, "the hole now", () -> x.lay(40, 1, 0, 0));
    }

    private static void wire() {
        ClawBoxes x = new ClawBoxes();
        x.lay(3, 1, 0, 0);
        due("first", x.wire(0, true) ? 1 : 0, 0);
        due("wired", x.thing(0, 5), 1);
        due("again", x.wire(0, true) ? 1 : 0, 1);
        due("off", x.wire(0, false) ? 1 : 0, 1);
        due("not wired", x.thing(0, 5), 0);
        refused(NO_SUCH, "wire(1)", () -> x.wire(1, true));
        refused(NO_SUCH, "wire(-1)", () -> x.wire(-1, true));
    }

    private static void key() {
        ClawBoxes x = ruled("grip 99;");
        x.lay(3, 1, 0, 0);
        x.lay(3, 2, 0, 0);
        x.lay(3, 3, 0, 0);
        due("the middle one", x.key(1), 1);
        due("again", x.key(1), 0);
        due("its place", x.thing(1, 0), -2);
        due("its level", x.thing(1, 1), NONE);
        due("what lay on it", x.thing(2, 1), 1);
        due("height", x.top(3, true), 2);
        due("the top one", x.key(2), 1);
        due("top", x.top(3, false), 0);
        x.attempt(3);
        due("one that fell in", x.key(0), 0);
        x.hole(40);
        due("a corner", x.lay(63, 1, 0, 0), 3);
        due("the other", x.lay(0, 1, 0, 0), 4);
        due("level at cell 0", x.thing(4, 1), 0);
        due("key at 63", x.key(3), 1);
        due("key at 0", x.key(4), 1);
        due("63 is empty", x.top(63, false), NONE);
        due("0 is empty", x.top(0, false), NONE);
        due("stays in", x.thing(0, 0), NONE);
        refused(NO_SUCH, "key(5)", () -> x.key(5));
        refused(NO_SUCH, "key(-1)", () -> x.key(-1));
    }

    private static void thing() {
        ClawBoxes x = new ClawBoxes();
        x.lay(17, 11, 2, 33);
        x.lay(17, 12, 3, 44);
        int[] want = {17, 1, 12, 3, 44, 0};
        for (int what = 0; what < 6; what++) {
            due("thing(1, " + what + ")", x.thing(1, what), want[what]);
        }
        refused(WRONG, "what 6", () -> x.thing(1, 6));
        refused(WRONG, "what -1", () -> x.thing(1, -1));
        refused(NO_SUCH, "thing ahead of what", () -> x.thing(2, 9));
        refused(NO_SUCH, "thing -1", () -> x.thing(-1, 0));
    }

    private static void top() {
        ClawBoxes x = new ClawBoxes();
        x.lay(5, 1, 0, 0);
        x.lay(5, 1, 0, 0);
        due("top", x.top(5, false), 1);
        due("height", x.top(5, true), 2);
        due("empty", x.top(6, false), NONE);
        refused(CELL, "top(64)", () -> x.top(64, false));
        refused(CELL, "top(-1)", () -> x.top(-1, true));
    }

    private static void hole() {
        ClawBoxes x = new ClawBoxes();
        x.lay(5, 1, 0, 0);
        due("hole(7)", x.hole(7), 63);
        due("hole(7) again", x.hole(7), 7);
        refused(WRONG, "a thing lies there", () -> x.hole(5));
        refused(CELL, "hole(64)", () -> x.hole(64));
        refused(CELL, "hole(-1)", () -> x.hole(-1));
        x.key(0);
        due("behind the key", x.hole(5), 7);
    }

    private static void set() {
        ClawBoxes x = new ClawBoxes();
        int[] most = {14, 99, 23};
        int[] first = {14, 1, 0};
        for (int what = 0; what < 3; what++) {
            int w = what;
            due("set", x.set(what, most[what]), first[what]);
            due("set", x.set(what, 0), most[what]);
            refused(WRONG, "above", () -> x.set(w, most[w] + 1));
            refused(WRONG, "below", () -> x.set(w, -1));
            due("stayed", x.set(what, 0), 0);
        }
        refused(WRONG, "what 3", () -> x.set(3, 0));
        refused(WRONG, "what -1", () -> x.set(-1, 0));
    }

    private static void seed() {
        ClawBoxes x = new ClawBoxes();
        due("first", x.seed(-77), 1);
        due("then", x.seed(Integer.MAX_VALUE), -77);
        due("count", x.count(13), Integer.MAX_VALUE);
    }

    private static void feed() {
        ClawBoxes x = new ClawBoxes();
        for (int n = 20; n <= 300; n += 20) {
            due("feed", x.feed(0x20202020, 0x20202020, 0x20202020, 0x20202020, 0x20202020), n);
        }
        due("too much", x.feed(1, 1, 1, 1, 1), NONE);
        due("bytes", x.count(12), 300);
        due("300 blanks", x.program(300, false), 0);
        due("the highest first", text(x, "grip 42;", false), 1);
        x.force(1);
        due("grip", x.tells(0, 0), 42);
    }

    private static void program() {
        faulty("", false, 0, 0);
        faulty("   ", false, 0, 0);
        faulty("grip 1;", false, 0, 0);
        faulty("  grip  1  ;  ", false, 0, 0);
        faulty("grip5if tries<2or since>3;", false, 0, 0);
        faulty("grip 0001;", false, 0, 0);
        faulty("grip 999;", false, 0, 0);
        faulty("grip 0000999999999999999999999;", false, 2, 5);
        faulty("grip 1000 5;", false, 2, 5);
        faulty("grip 1 1000;", false, 1, 7);
        faulty("grips 1;", false, 1, 0);
        faulty(" Grip 1;", false, 1, 1);
        faulty("grip 1", false, 1, 6);
        faulty("grip 1  ", false, 1, 8);
        faulty("grip", false, 1, 4);
        faulty("grip ;", false, 1, 5);
        faulty(";", false, 1, 0);
        faulty("grip 1;;", false, 1, 7);
        faulty("grip -1;", false, 1, 5);
        faulty("grip 1+;", false, 1, 7);
        faulty("grip (1;", false, 1, 7);
        faulty("grip 1);", false, 1, 6);
        faulty("grip [1];", false, 1, 5);
        faulty("grip lots;", false, 1, 5);
        faulty("grip can;", false, 1, 5);
        faulty("grip least(1);", false, 1, 12);
        faulty("grip most 1;", false, 1, 10);
        faulty("grip least(1,2,3);", false, 1, 14);
        faulty("grip most(lot,least(2,3));", false, 0, 0);
        faulty("grip least(1000,1);", false, 2, 11);
        faulty("grip least(1,1000);", false, 2, 13);
        faulty("grip 1 if;", false, 1, 9);
        faulty("grip 1 if 2;", false, 1, 11);
        faulty("grip 1 if 1<2<3;", false, 1, 13);
        faulty("grip 1 if (1<2);", false, 1, 12);
        faulty("grip 1 if [1<2;", false, 1, 14);
        faulty("grip 1 if not;", false, 1, 13);
        faulty("grip 1 if not [not 1<2] and 3=3;", false, 0, 0);
        faulty("grip 1 if 1<2 if 1<2;", false, 1, 14);
        faulty("grip 1 if 1<2 and or 1<2;", false, 1, 18);
        faulty("grip\t1;", false, 1, 4);
        faulty("grip 1;" + (char) 233, false, 1, 7);
        faulty("grip 1;" + (char) 0, false, 1, 7);
        nesting();
        clauses();
        laws();
        capacity();
    }

    private static void nesting() {
        faulty("grip ((((((1))))));", false, 0, 0);
        faulty("grip (((((((1)))))));", false, 3, 11);
        faulty("grip (((((least(1,2))))));", false, 0, 0);
        faulty("grip ((((((least(1,2)))))));", false, 3, 16);
        faulty("grip 1 if not not not not not not 1<2;", false, 0, 0);
        faulty("grip 1 if not not not not not not not 1<2;", false, 3, 34);
        faulty("grip 1 if [not[not[not(1)<2]]];", false, 3, 22);
        faulty("grip 1 if [not[not[not 1<2]]] and [[[[[[1=1]]]]]];", false, 0, 0);
        faulty("grip 1 if not not not not not not 1<2 or not (1)<2;", false, 0, 0);
        faulty("grip (((((1)+(1))*(1)))) if ((((((1))))))=1;", false, 0, 0);
        faulty("grip (((((1)+(1))*(1))))) if ((((((1))))))=1;", false, 1, 24);
        faulty("grip ((((((1000", false, 2, 11);
        faulty("grip (((((((1000", false, 3, 11);
    }

    private static void clauses() {
        String twelve = "grip 1;".repeat(12);
        faulty(twelve, false, 0, 0);
        faulty(twelve + "  ", false, 0, 0);
        faulty(twelve + " slip x;", false, 3, 85);
        faulty(twelve + " slips 1;", false, 1, 85);
        faulty(twelve + ";", false, 1, 84);
    }

    private static void laws() {
        faulty("can=1;", true, 0, 0);
        faulty("1=1;", true, 0, 0);
        faulty("1000=1;", true, 2, 0);
        faulty(" tries < 5 ; ", true, 0, 0);
        faulty("tries<5", true, 1, 7);
        faulty("tries<5;since<3;", true, 1, 8);
        faulty("", true, 1, 0);
        faulty(";", true, 1, 0);
        faulty("grip 1;", true, 1, 0);
        faulty("tries<1000;", true, 2, 6);
        faulty("not[not[not[not can=1]]];", true, 3, 12);
        faulty("not[not[not[can=1]]];", true, 0, 0);
        faulty("tries<5 if can=1;", true, 1, 8);
    }

    private static void capacity() {
        ClawBoxes x = new ClawBoxes();
        tape(x, "grip 1;");
        refused(WRONG, "n above the bytes", () -> x.program(21, false));
        refused(WRONG, "n below 0", () -> x.program(-1, false));
        due("the tape stays", x.count(12), 20);
        for (int i = 0; i < 6; i++) {
            tape(x, "grip 1;");
            due("program", x.program(7, false), i);
        }
        due("7th", text(x, "grip 1;", false), -1);
        due("tape behind the 7th", x.count(12), 0);
        due("six", x.count(8), 6);
        for (int i = 0; i < 3; i++) {
            due("law", text(x, "can=1;", true), i);
        }
        due("4th law", text(x, "can=1;", true), -1);
        due("three", x.count(9), 3);
    }

    /** How values are worked. */
    private static void values() {
        grips("1+2*3", 7);
        grips("(1+2)*3", 9);
        grips("10-3-2", 5);
        grips("100/7/2", 7);
        grips("7/0", 0);
        grips("5+7/0*9", 5);
        grips("2-7+(0-7)/2+20", 12);
        grips("0-5", 0);
        grips("999+1", 999);
        grips("least(4,9)*10+most(4,9)", 49);
        grips("999*999*999*999*0+3", 3);
        grips("0-999*999*999*3/(999*999*2)", 653);
        grips("tries*100+since*10+coins", 111);
        grips("paid+hour+lot+4", 4);
        holds("1<2", true);
        holds("2<1", false);
        holds("2>1", true);
        holds("1=1", true);
        holds("1=2", false);
        holds("1=1 or 1=2 and 1=2", true);
        holds("[1=1 or 1=2] and 1=2", false);
        holds("not 1=2 and 1=2", false);
        holds("not [1=2 and 1=2]", true);
        holds("not not 1=2", false);
        due("the last clause that holds", ruled("grip 5;grip 6;grip 7 if 1=2;").tells(0, 0), 6);
        due("lots 1 at least", ruled("lots 0;").tells(2, 0), 1);
        due("lots 36 at most", ruled("lots 99;").tells(2, 0), 36);
        due("lots by lot 0", ruled("lots 5+lot;").tells(2, 7), 5);
        due("slip 999 at most", ruled("slip 999*2;").tells(1, 0), 999);
    }

    private static void fault() {
        ClawBoxes x = new ClawBoxes();
        text(x, "grip x;", false);
        due("place", x.fault(), 5);
        due("place stays", x.fault(), 5);
        refused(WRONG, "no such n", () -> x.program(1, false));
        due("place behind a refused call", x.fault(), 5);
        text(x, "grip 1;", false);
        due("without", x.fault(), NONE);
    }

    private static void force() {
        ClawBoxes x = new ClawBoxes();
        text(x, "grip 1;", false);
        text(x, "grip 2;", false);
        due("force(1)", x.force(1), NONE);
        due("grip", x.tells(0, 0), 2);
        due("force(0)", x.force(0), 1);
        due("force(-1)", x.force(NONE), 0);
        due("none", x.tells(0, 0), 0);
        refused(WRONG, "force(2)", () -> x.force(2));
        refused(WRONG, "force(-2)", () -> x.force(-2));
        due("none yet", x.force(0), NONE);
    }

    private static void tells() {
        ClawBoxes x = ruled("grip 100+lot;slip coins*10+hour;lots tries*4+since;");
        x.set(1, 3);
        x.set(2, 5);
        due("grip by lot 35", x.tells(0, 35), 135);
        due("slip", x.tells(1, 0), 35);
        due("lots", x.tells(2, 0), 5);
        x.attempt(1);
        due("slip behind a try", x.tells(1, 0), 65);
        due("lots behind a try", x.tells(2, 0), 10);
        refused(WRONG, "what 3", () -> x.tells(3, 0));
        refused(WRONG, "what -1", () -> x.tells(-1, 0));
        refused(WRONG, "lot 36", () -> x.tells(2, 36));
        refused(WRONG, "lot -1", () -> x.tells(0, -1));
        ClawBoxes y = new ClawBoxes();
        due("none in force: grip", y.tells(0, 5), 0);
        due("none in force: slip", y.tells(1, 5), 0);
        due("none in force: lots", y.tells(2, 5), 1);
    }

    private static void attempt() {
        ClawBoxes x = ruled("grip 20;");
        x.lay(9, 20, 0, 50);
        x.lay(10, 21, 0, 50);
        due("paid", x.attempt(9), 5);
        due("weak", x.attempt(10), 1);
        due("no thing", x.attempt(9), 0);
        due("hole", x.attempt(63), 0);
        x.set(0, 2);
        due("too far", x.attempt(10), 0);
        x.set(0, 3);
        x.wire(1, true);
        due("wired ahead of weak", x.attempt(10), 4);
        x.set(0, 2);
        due("missed ahead of wired", x.attempt(10), 0);
        due("tries", x.count(4), 7);
        due("coins", x.count(6), 7);
        due("paid", x.count(7), 50);
        due("since", x.count(5), 7);
        refused(CELL, "attempt(64)", () -> x.attempt(64));
        refused(CELL, "attempt(-1)", () -> x.attempt(-1));
        for (int i = 7; i < 200; i++) {
            x.attempt(0);
        }
        due("the 200th stands", x.record(199, 4), 200);
        due("201st", x.attempt(0), -1);
        due("tries stay", x.count(4), 200);
        due("coins stay", x.count(6), 200);
        refused(CELL, "201st, cell", () -> x.attempt(64));
    }

    private static void steps() {
        ClawBoxes x = ruled("grip 30;slip 10;");
        x.lay(9, 30, 0, 1);
        due("slipped at step 1", x.attempt(9), 2);
        x.key(0);
        x.lay(9, 21, 0, 1);
        due("let go at step 10", x.attempt(9), 3);
        due("above the first cell", x.thing(1, 0), 10);
        x.key(1);
        x.lay(9, 22, 0, 1);
        due("slipped at step 9", x.attempt(9), 2);
        x.key(2);
        x.lay(9, 14, 0, 1);
        due("let go behind the turn", x.attempt(9), 3);
        due("in y", x.thing(3, 0), 23 + 8 * 1);
        x.key(3);
        x.lay(62, 21, 0, 7);
        due("the last step pays in any case", x.attempt(62), 5);
        x.lay(61, 21, 0, 7);
        due("one before the last does not", x.attempt(61), 3);
        due("beside the hole", x.thing(5, 0), 62);
        x.hole(0);
        x.key(5);
        x.lay(18, 20, 0, 7);
        due("to the left", x.attempt(18), 3);
        due("two steps", x.thing(6, 0), 16);
        heights();
        locks();
        tenths();
    }

    /** The higher a thing lies, the fewer steps the claw rises. */
    private static void heights() {
        ClawBoxes x = ruled("grip 30;slip 10;");
        x.lay(9, 1, 0, 0);
        x.lay(9, 21, 0, 0);
        due("from level 1", x.attempt(9), 3);
        due("rises 8 steps", x.record(0, 2), 11);
        ClawBoxes y = ruled("grip 30;slip 10;");
        for (int i = 0; i < 9; i++) {
            y.lay(9, 1, 0, 0);
        }
        y.lay(9, 30, 0, 0);
        due("from level 9", y.attempt(9), 3);
        due("does not rise", y.record(0, 2), 10);
        y.key(9);
        y.lay(9, 1, 0, 0);
        y.lay(9, 30, 0, 0);
        due("from level 10", y.attempt(9), 3);
        due("does not rise either", y.record(1, 2), 10);
    }

    private static void locks() {
        ClawBoxes x = ruled("grip 60;slip 10;");
        int[] cells = {27, 19, 26, 35, 28, 36};
        for (int cell : cells) {
            x.lay(cell, 9, 4, 0);
        }
        due("five gripped", x.attempt(27), 3);
        due("where", x.record(0, 2), 31 + 24);
        int[] order = {0, 4, 3, 2, 1};
        for (int level = 0; level < 5; level++) {
            due("right, below, left, above", x.thing(order[level], 1), level);
            due("where each lies", x.thing(order[level], 0), 55);
        }
        due("one not beside stays", x.thing(5, 0), 36);
        ClawBoxes y = ruled("grip 20;");
        y.lay(7, 10, 1, 0);
        y.lay(8, 99, 1, 0);
        due("rows do not join", y.attempt(7), 5);
        corners();
        y.lay(17, 10, 1, 3);
        y.lay(18, 10, 1, 4);
        y.wire(3, true);
        due("a wired one beside", y.attempt(17), 4);
        y.lay(18, 99, 2, 5);
        due("covered", y.attempt(17), 5);
        due("the covered one stays", y.thing(3, 0), 18);
        y.lay(33, 10, 0, 3);
        y.lay(34, 99, 0, 3);
        due("lock 0 does not lock", y.attempt(33), 5);
        y.lay(56, 20, 6, 3);
        y.lay(57, 1, 6, 3);
        due("too heavy together", y.attempt(56), 1);
        ClawBoxes z = ruled("grip 11;slip 10;");
        z.lay(9, 1, 5, 0);
        z.lay(10, 1, 0, 0);
        z.lay(10, 1, 5, 0);
        due("let go on the heap it came from", z.attempt(9), 3);
        due("at", z.record(0, 2), 10);
        due("first", z.thing(0, 1), 1);
        due("then its neighbour", z.thing(2, 1), 2);
    }

    /** What lies at the edges is gripped and carried as anywhere else. */
    private static void corners() {
        ClawBoxes x = ruled("grip 30;");
        x.hole(27);
        int[][] pairs = {{1, 0}, {6, 7}, {8, 0}, {55, 63}, {62, 63}};
        for (int[] pair : pairs) {
            int a = x.lay(pair[0], 15, 1, 0);
            int b = x.lay(pair[1], 16, 1, 0);
            due("both gripped: weak", x.attempt(pair[0]), 1);
            due("both gripped: weak", x.attempt(pair[1]), 1);
            x.key(b);
            due("alone", x.attempt(pair[0]), 5);
            due("in", x.thing(a, 0), NONE);
        }
        x.lay(63, 15, 0, 0);
        due("the corner 63", x.attempt(63), 5);
        ClawBoxes y = ruled("grip 30;slip 10;");
        y.hole(0);
        y.lay(59, 18, 0, 0);
        due("up: let go", y.attempt(59), 3);
        due("at step 13", y.record(0, 2), 48);
    }

    private static void tenths() {
        ClawBoxes x = ruled("grip 10;slip 3;");
        x.lay(9, 10, 0, 0);
        due("3 * 4 / 10 is 1", x.attempt(9), 2);
        x.key(0);
        x.lay(61, 8, 0, 0);
        due("3 * 9 / 10 is 2", x.attempt(61), 3);
        x.key(1);
        x.lay(62, 8, 0, 0);
        due("paid", x.attempt(62), 5);
    }

    private static void record() {
        ClawBoxes x = ruled("grip 30;slip 10 if tries>1;lots 5;");
        x.lay(9, 20, 0, 50);
        x.lay(20, 20, 0, 7);
        x.set(1, 3);
        x.set(2, 6);
        x.attempt(9);
        x.set(2, 7);
        x.attempt(20);
        int[] first = {9, 5, NONE, 16838 % 5, 1, 1, 3, 0, 6, 1};
        int[] second = {20, 3, 22, 5758 % 5, 2, 1, 6, 50, 7, 0};
        for (int what = 0; what < 10; what++) {
            due("record(0, " + what + ")", x.record(0, what), first[what]);
            due("record(1, " + what + ")", x.record(1, what), second[what]);
        }
        refused(NO_SUCH, "record(2, 0)", () -> x.record(2, 0));
        ClawBoxes y = ruled("grip 20*lot;lots 2-lot;");
        y.lay(9, 20, 0, 1);
        y.attempt(1);
        due("can by some lot", y.record(0, 9), 1);
        due("a lot of 2", y.record(0, 3), 0);
        due("one draw", y.count(13), 1103527590);
        y.force(NONE);
        y.attempt(1);
        due("the lot of 1", y.record(1, 3), 0);
        due("no draw", y.count(13), 1103527590);
        refused(NO_SUCH, "record(-1, 10)", () -> x.record(-1, 10));
        refused(WRONG, "what 10", () -> x.record(0, 10));
        refused(WRONG, "what -1", () -> x.record(0, -1));
    }

    private static void hand() {
        ClawBoxes x = new ClawBoxes();
        refused(WRONG, "0", () -> x.hand(0));
        refused(WRONG, "-1", () -> x.hand(-1));
        refused(WRONG, "134217728", () -> x.hand(134217728));
        due("least", x.hand(1), 0);
        due("most", x.hand(134217727), 1);
        for (int i = 2; i < 6; i++) {
            due("hand", x.hand(i), i);
        }
        due("7th", x.hand(1), -1);
        refused(WRONG, "7th that is none", () -> x.hand(0));
        due("six", x.count(10), 6);
    }

    private static void play() {
        ClawBoxes x = new ClawBoxes();
        x.hand(0_100000000);
        x.hand(0_000000001);
        x.hand(0_070000010);
        x.play(0, 20);
        due("y - 1 and x - 1", x.record(0, 0), 11);
        due("a draw by 1 too", x.count(13), 1103527590);
        x.play(1, 20);
        due("y + 1 and x + 1", x.record(1, 0), 29);
        x.play(0, 0);
        due("beyond the box", x.record(2, 0), 0);
        x.play(1, 63);
        due("beyond the box", x.record(3, 0), 63);
        x.play(0, 4);
        due("beyond y alone", x.record(4, 0), 3);
        x.play(1, 15);
        due("beyond x alone", x.record(5, 0), 23);
        x.seed(1);
        x.play(2, 20);
        due("16838 % 8 is 6", x.record(6, 0), 12);
        x.seed(3);
        x.play(2, 20);
        int drawn = ((3 * 1103515245 + 12345) >>> 16 & 32767) % 8;
        due("weight by weight", x.record(7, 0), drawn < 7 ? 12 : 28);
        refused(NO_SUCH, "hand ahead of aim", () -> x.play(3, 64));
        refused(CELL, "aim", () -> x.play(2, 64));
        for (int i = 8; i < 200; i++) {
            x.attempt(1);
        }
        int seed = x.count(13);
        due("201st", x.play(0, 9), -1);
        due("no draw", x.count(13), seed);
        refused(CELL, "201st, aim", () -> x.play(0, -1));
        lotBehindHand();
    }

    private static void lotBehindHand() {
        ClawBoxes x = ruled("lots 7;");
        x.hand(0_000010000);
        x.play(0, 5);
        int second = (1103527590 * 1103515245 + 12345) >>> 16 & 32767;
        due("the lot is drawn behind the hand", x.record(0, 3), second % 7);
    }

    private static void can() {
        ClawBoxes x = ruled("grip 10+lot;lots 3;");
        due("empty", x.can(false), NONE);
        x.lay(30, 13, 0, 0);
        due("too heavy by each lot", x.can(false), NONE);
        x.lay(20, 12, 0, 0);
        due("by the last lot", x.can(false), 20);
        due("not by all", x.can(true), NONE);
        x.lay(40, 10, 0, 0);
        due("by all", x.can(true), 40);
        due("the least", x.can(false), 20);
        x.wire(1, true);
        due("wired", x.can(false), 40);
        x.set(0, 4);
        due("too far", x.can(true), NONE);
        due("none in force", new ClawBoxes().can(true), NONE);
        x.lay(0, 1, 0, 0);
        due("cell 0", x.can(true), 0);
        ClawBoxes z = ruled("grip 20*lot;lots 2-lot;");
        z.lay(9, 20, 0, 1);
        due("as many lots as lot 0 tells", z.can(false), 9);
        ClawBoxes y = ruled("grip 10+lot*10;slip lot*99;lots 2;");
        y.lay(1, 10, 0, 0);
        y.lay(2, 20, 0, 0);
        due("by lot 0 alone", y.can(false), 1);
        due("no cell by all", y.can(true), NONE);
    }

    private static void odds() {
        ClawBoxes x = ruled("grip lot;");
        x.hand(0_123456701);
        x.lay(0, 5, 0, 0);
        x.lay(1, 9, 0, 0);
        due("lot 4", x.odds(0, 0, 4), 0);
        due("lot 0", x.odds(0, 0, 0), 0);
        due("lot 5: four weights come to the corner", x.odds(0, 0, 5), 1 + 2 + 4 + 5);
        due("lot 9", x.odds(0, 0, 9), 1 + 2 + 4 + 5 + 3 + 6);
        due("lot 35", x.odds(0, 10, 35), 1 + 0);
        refused(NO_SUCH, "hand", () -> x.odds(1, 64, 36));
        refused(CELL, "aim", () -> x.odds(0, 64, 36));
        refused(WRONG, "lot 36", () -> x.odds(0, 0, 36));
        refused(WRONG, "lot -1", () -> x.odds(0, 0, -1));
        due("no try was made", x.count(4), 0);
    }

    private static void weights() {
        ClawBoxes x = new ClawBoxes();
        x.hand(0_123456701);
        x.hand(134217727);
        due("29", x.weights(0), 29);
        due("63", x.weights(1), 63);
        refused(NO_SUCH, "weights(2)", () -> x.weights(2));
        refused(NO_SUCH, "weights(-1)", () -> x.weights(-1));
    }

    private static void when() {
        ClawBoxes x = new ClawBoxes();
        text(x, "grip 9 if since=60;", false);
        text(x, "grip 9 if since=61;", false);
        text(x, "grip 9 if coins>10;", false);
        text(x, "grip 9-lot if tries=4;", false);
        x.lay(5, 9, 0, 0);
        due("60", x.when(5, 0), 60);
        due("61 is too late", x.when(5, 1), NONE);
        due("coins", x.when(5, 2), 11);
        x.set(1, 4);
        due("dearer coins", x.when(5, 2), 3);
        due("tries", x.when(5, 3), 4);
        x.attempt(1);
        due("tries behind one", x.when(5, 3), 3);
        due("coins behind one", x.when(5, 2), 2);
        due("empty cell", x.when(6, 3), NONE);
        due("hole", x.when(63, 3), NONE);
        refused(CELL, "cell ahead of program", () -> x.when(64, 9));
        refused(WRONG, "program 4", () -> x.when(5, 4));
        refused(WRONG, "program -1", () -> x.when(5, -1));
    }

    /** Five programs that watch the same tries. */
    private static ClawBoxes watched() {
        ClawBoxes x = ruled("grip 30;slip 10;");
        text(x, "grip 20+lot;slip 10;lots 11;", false);
        text(x, "grip 30;slip 10;grip 0 if tries=2;", false);
        text(x, "grip 31;slip 10;", false);
        text(x, "", false);
        x.lay(9, 20, 0, 50);
        return x;
    }

    private static void fitting() {
        ClawBoxes x = watched();
        due("no tries: all", x.fitting(), 31);
        x.attempt(63);
        due("missed: all", x.fitting(), 31);
        x.wire(0, true);
        x.attempt(9);
        x.wire(0, false);
        due("wired: all", x.fitting(), 31);
        x.attempt(9);
        due("let go at 11", x.record(2, 2), 11);
        due("the same cell, by some lot", x.fitting(), 1 + 2 + 4);
        x.hole(0);
        x.set(0, 0);
        x.key(0);
        due("all else as it was then", x.fitting(), 1 + 2 + 4);
        ClawBoxes y = watched();
        y.attempt(9);
        y.refill();
        y.attempt(63);
        y.attempt(9);
        due("tries as they were then", y.fitting(), 1 + 2);
        due("none told", new ClawBoxes().fitting(), 0);
        ClawBoxes z = ruled("grip 20;");
        text(z, "grip 20*lot;lots 2-lot;", false);
        text(z, "grip 10*lot;lots 2;", false);
        z.lay(9, 20, 0, 1);
        z.attempt(9);
        due("lots told by lot 0, and none beyond them", z.fitting(), 1 + 2);
    }

    private static void strange() {
        ClawBoxes x = watched();
        x.attempt(63);
        x.attempt(9);
        due("0", x.strange(0), NONE);
        due("1", x.strange(1), NONE);
        due("2", x.strange(2), 1);
        due("3", x.strange(3), 1);
        due("4", x.strange(4), 1);
        refused(WRONG, "5", () -> x.strange(5));
        refused(WRONG, "-1", () -> x.strange(-1));
    }

    private static void guess() {
        ClawBoxes x = watched();
        x.lay(62, 20, 0, 0);
        due("0, 2 and 3 (1 has 20 by lot 0)", x.guess(62), 3);
        x.attempt(9);
        due("0 and 2 are left, 2 is weak for the second", x.guess(62), 1);
        due("empty", x.guess(9), 0);
        ClawBoxes y = ruled("grip 20-lot;lots 2;");
        y.lay(9, 20, 0, 0);
        due("by lot 0", y.guess(9), 1);
        refused(CELL, "guess(64)", () -> x.guess(64));
        refused(CELL, "guess(-1)", () -> x.guess(-1));
    }

    private static void refill() {
        ClawBoxes x = ruled("grip 30;slip 10;");
        x.lay(9, 20, 0, 50);
        x.lay(62, 5, 0, 60);
        x.lay(9, 7, 0, 0);
        x.lay(40, 7, 0, 0);
        x.lay(41, 7, 0, 0);
        x.key(2);
        x.wire(4, true);
        x.attempt(9);
        x.attempt(62);
        x.key(3);
        x.hole(40);
        due("let go, in, taken, taken and in now", x.refill(), 4);
        due("the lower one", x.thing(0, 1), 0);
        due("the upper one", x.thing(2, 1), 1);
        due("laid on the hole", x.thing(3, 0), NONE);
        due("wires stay", x.thing(4, 5), 1);
        due("tries", x.count(4), 0);
        due("since", x.count(5), 1);
        due("coins", x.count(6), 0);
        due("paid", x.count(7), 0);
        refused(NO_SUCH, "record", () -> x.record(0, 0));
        due("the hole stays", x.hole(40), 40);
        due("the program stays", x.force(NONE), 0);
        due("again", x.refill(), 0);
    }

    private static void worth() {
        ClawBoxes x = ruled("grip 10 if since>2;grip 99 if paid>40;");
        x.set(1, 3);
        x.lay(5, 10, 0, 50);
        x.lay(6, 99, 0, 900);
        due("weak", x.worth(0, 5, 1), -3);
        due("strong", x.worth(0, 5, 3), 47);
        due("others take it", x.worth(5, 5, 4), -3);
        due("others pay for it", x.worth(5, 6, 4), 897);
        due("and not yet", x.worth(5, 6, 3), -3);
        due("20", x.worth(0, 5, 20), 47);
        due("on a copy", x.count(4) + x.count(7), 0);
        ClawBoxes y = ruled("grip 20-lot;lots 2;");
        y.lay(9, 20, 0, 8);
        due("by lot 0", y.worth(0, 9, 1), 7);
        due("on a copy", x.thing(0, 0), 5);
        refused(WRONG, "k 0", () -> x.worth(0, 0, 0));
        refused(WRONG, "k 21", () -> x.worth(0, 0, 21));
        refused(CELL, "others", () -> x.worth(64, 0, 0));
        refused(CELL, "yours", () -> x.worth(0, -1, 0));
    }

    private static void bide() {
        ClawBoxes x = ruled("grip 10 if since>2;grip 99 if paid>40;");
        x.lay(5, 10, 0, 50);
        x.lay(6, 99, 0, 900);
        due("the least k", x.bide(0, 5), 3);
        due("behind the others' win", x.bide(5, 6), 4);
        due("never", x.bide(0, 1), 1);
        ClawBoxes y = ruled("grip 10 if tries=20;");
        y.lay(5, 10, 0, 50);
        due("20", y.bide(0, 5), 20);
        due("on a copy", y.count(4), 0);
        refused(CELL, "others", () -> x.bide(-1, 0));
        refused(CELL, "yours", () -> x.bide(0, 64));
    }

    private static void settle() {
        ClawBoxes x = new ClawBoxes();
        x.hand(0_111111111);
        x.hand(0_000020100);
        x.hand(0_000000001);
        x.lay(21, 5, 0, 30);
        due("30 tries: 9 behind the 22nd", x.settle(0, 21, 0), 22);
        due("3 / 2 tries", x.settle(1, 21, 0), 30);
        due("never hits", x.settle(2, 21, 0), NONE);
        due("no thing", x.settle(0, 22, 0), NONE);
        due("208 at most", x.settle(0, 21, 178), 200);
        due("beyond 200", x.settle(0, 21, 179), NONE);
        x.set(1, 99);
        due("9999", x.settle(0, 21, 9999), 94);
        due("1 at least", x.settle(0, 21, 0), 1);
        x.set(1, 0);
        due("no price", x.settle(0, 21, 0), NONE);
        x.lay(0, 1, 0, 0);
        due("no price, no value", x.settle(0, 0, 0), 1);
        x.set(1, 1);
        due("four weights come to the corner", x.settle(0, 0, 10), 9);
        refused(NO_SUCH, "hand", () -> x.settle(3, 64, -1));
        refused(CELL, "cell", () -> x.settle(0, 64, -1));
        refused(WRONG, "leave -1", () -> x.settle(0, 0, -1));
        refused(WRONG, "leave 10000", () -> x.settle(0, 0, 10000));
    }

    private static void back() {
        ClawBoxes x = new ClawBoxes();
        x.hand(0_111111111);
        x.hand(0_000020100);
        x.hand(0_000000001);
        x.lay(21, 5, 0, 30);
        x.lay(0, 5, 0, 1);
        due("9 - 30", x.back(0, 21), -21);
        due("3 / 2 - 30", x.back(1, 21), -29);
        due("9 / 4 - 1", x.back(0, 0), 1);
        due("never hits", x.back(2, 21), VOID);
        due("no thing", x.back(0, 22), VOID);
        x.set(1, 3);
        due("9 / 2 - 30", x.back(1, 21), -26);
        refused(NO_SUCH, "hand", () -> x.back(3, 64));
        refused(CELL, "cell", () -> x.back(0, 64));
    }

    private static void broken() {
        ClawBoxes x = ruled("grip 20 if since>1;");
        text(x, "tries<3 or lot=1;", true);
        text(x, "can=1 or since<2;", true);
        text(x, "lot=0 and hour=0;", true);
        x.lay(9, 20, 0, 1);
        due("kept", x.broken(0), NONE);
        due("kept", x.broken(1), NONE);
        x.attempt(1);
        x.attempt(1);
        due("the next one", x.broken(0), 2);
        due("can", x.broken(1), NONE);
        x.key(0);
        due("can no more: the next one", x.broken(1), 2);
        x.attempt(1);
        x.refill();
        due("refilled", x.broken(0), NONE);
        x.attempt(1);
        x.set(2, 1);
        due("the hour now", x.broken(2), 1);
        x.attempt(1);
        x.set(2, 0);
        due("the hour then", x.broken(2), 1);
        x.force(NONE);
        due("can by the program then, and now", x.broken(1), 2);
        ClawBoxes y = ruled("grip 20*lot;lots 2;");
        text(y, "tries>1;", true);
        text(y, "can=1;", true);
        y.lay(9, 20, 0, 1);
        due("can by some lot, now", y.broken(1), NONE);
        y.attempt(1);
        due("the first try", y.broken(0), 0);
        due("can by some lot, then", y.broken(1), NONE);
        refused(NO_SUCH, "3", () -> x.broken(3));
        refused(NO_SUCH, "-1", () -> x.broken(-1));
    }

    private static void cut() {
        ClawBoxes x = new ClawBoxes();
        x.hand(0_123456701);
        due("x - 1: ahead", x.cut(0, 10, 9, 0, 0), 1 + 4 + 7);
        due("x: on it", x.cut(0, 10, 10, 0, 0), 2 + 5);
        due("x + 1: behind", x.cut(0, 10, 11, 0, 0), 3 + 6 + 1);
        due("too late", x.cut(0, 10, 12, 0, 0), 0);
        due("0 is behind 99", x.cut(0, 99, 0, 0, 0), 10);
        due("99 is ahead of 0", x.cut(0, 0, 99, 0, 0), 12);
        due("ruse", x.cut(0, 10, 20, 9, 2), 10);
        due("ruse over the end", x.cut(0, 95, 3, 9, 2), 12);
        due("owed", x.cut(0, 10, 10, 9, 1), 7);
        x.attempt(0);
        due("owed by now", x.cut(0, 10, 10, 9, 2), 7);
        due("owed from 999 on", x.cut(0, 10, 19, 9, 999), 7);
        refused(NO_SUCH, "hand", () -> x.cut(1, -1, 0, 0, 0));
        refused(WRONG, "aim", () -> x.cut(0, 100, 0, 0, 0));
        refused(WRONG, "aim", () -> x.cut(0, -1, 0, 0, 0));
        refused(WRONG, "string", () -> x.cut(0, 0, 100, 0, 0));
        refused(WRONG, "string", () -> x.cut(0, 0, -1, 0, 0));
        refused(WRONG, "ruse", () -> x.cut(0, 0, 0, 10, 0));
        refused(WRONG, "ruse", () -> x.cut(0, 0, 0, -1, 0));
        refused(WRONG, "owed", () -> x.cut(0, 0, 0, 0, 1000));
        refused(WRONG, "owed", () -> x.cut(0, 0, 0, 0, -1));
    }

    private static void plays(ClawBoxes x, int belief, int coins, int[] want) {
        for (int what = 0; what < 4; what++) {
            due("player(9, " + belief + ", " + coins + ", " + what + ")", x.player(9, belief, coins, what), want[what]);
        }
    }

    private static void player() {
        ClawBoxes x = ruled("grip 30;slip 10;");
        x.lay(9, 25, 0, 1);
        plays(x, 1, 20, new int[] {20, 20, 21, 0});
        plays(x, 99, 3, new int[] {3, 3, 99, 0});
        plays(x, 5, 0, new int[] {0, 0, 5, 0});
        x.key(0);
        plays(x, 5, 99, new int[] {3, 0, 0, 0});
        x.lay(9, 21, 0, 1);
        plays(x, 2, 99, new int[] {3, 1, 0, 0});
        x.wire(1, true);
        plays(x, 2, 99, new int[] {1, 0, 0, 0});
        x.wire(1, false);
        x.force(NONE);
        plays(x, 4, 99, new int[] {2, 0, 0, 0});
        x.force(0);
        x.key(1);
        x.lay(9, 1, 0, 5);
        plays(x, 1, 2, new int[] {2, 0, 4, 1});
        plays(x, 97, 1, new int[] {1, 0, 99, 1});
        due("on a copy", x.thing(2, 0), 9);
        due("on a copy", x.count(4), 0);
        refused(CELL, "cell", () -> x.player(64, 0, 0, 0));
        refused(WRONG, "belief 0", () -> x.player(9, 0, 0, 0));
        refused(WRONG, "belief 100", () -> x.player(9, 100, 0, 0));
        refused(WRONG, "coins -1", () -> x.player(9, 1, -1, 0));
        refused(WRONG, "coins 100", () -> x.player(9, 1, 100, 0));
        refused(WRONG, "what 4", () -> x.player(9, 1, 0, 4));
        refused(WRONG, "what -1", () -> x.player(9, 1, 0, -1));
    }

    private static void fair() {
        ClawBoxes x = new ClawBoxes();
        due("0", x.fair(0), 1008);
        due("1 of an empty box", x.fair(1), NONE);
        x.lay(62, 80, 0, 0);
        due("90 less 7", x.fair(1), 9008);
        x.lay(61, 83, 0, 0);
        due("90 less 5, or 6", x.fair(2), 9006);
        x.lay(0, 90, 0, 0);
        due("no slip", x.fair(3), 9000);
        x.lay(1, 91, 0, 0);
        due("too heavy", x.fair(4), NONE);
        x.key(3);
        x.wire(2, true);
        due("wired", x.fair(3), NONE);
        x.set(0, 13);
        due("one in reach", x.fair(2), 9006);
        refused(WRONG, "65", () -> x.fair(65));
        refused(WRONG, "-1", () -> x.fair(-1));
    }

    private static void image() {
        ClawBoxes x = new ClawBoxes();
        due("1", x.image(), 1);
        due("2", x.image(), 2);
        due("3", x.image(), 3);
        due("4th", x.image(), -1);
        due("three", x.count(11), 3);
    }

    private static void restore() {
        ClawBoxes x = ruled("grip 30;lots 9;");
        x.lay(9, 20, 0, 50);
        x.lay(9, 10, 0, 5);
        x.attempt(3);
        x.image();
        x.attempt(9);
        x.wire(0, true);
        x.key(0);
        x.lay(11, 4, 0, 4);
        x.hole(12);
        x.set(0, 1);
        x.set(1, 2);
        x.set(2, 3);
        text(x, "grip 1;", false);
        text(x, "can=1;", true);
        x.hand(8);
        x.force(1);
        x.image();
        x.refill();
        x.attempt(5);
        due("1 left", x.restore(), 1);
        due("the first try of the second", x.record(0, 0), 3);
        due("things of the second", x.count(0), 3);
        due("taken", x.thing(0, 0), -2);
        due("tries", x.count(4), 2);
        due("record", x.record(1, 0), 9);
        due("0 left", x.restore(), 0);
        due("first try", x.record(0, 0), 3);
        due("things told since are gone", x.count(0), 2);
        due("place", x.thing(0, 0), 9);
        due("level", x.thing(1, 1), 1);
        due("wire", x.thing(0, 5), 0);
        due("tries", x.count(4), 1);
        due("since", x.count(5), 2);
        due("coins", x.count(6), 1);
        due("paid", x.count(7), 0);
        due("seed", x.count(13), 1103527590);
        refused(NO_SUCH, "record", () -> x.record(1, 0));
        due("hole", x.hole(63), 63);
        due("time", x.set(0, 14), 14);
        due("price", x.set(1, 1), 1);
        due("hour", x.set(2, 0), 0);
        due("force", x.force(0), 0);
        due("programs stay", x.count(8), 2);
        due("laws stay", x.count(9), 1);
        due("hands stay", x.count(10), 1);
        due("none", x.restore(), -1);
        x.wire(1, true);
        due("a number told anew", x.lay(20, 1, 0, 0), 2);
        due("is not wired", x.thing(2, 5), 0);
    }

    private static void count() {
        ClawBoxes x = ruled("grip 30;");
        x.lay(9, 20, 0, 50);
        x.lay(10, 31, 0, 50);
        x.lay(11, 10, 0, 7);
        x.lay(12, 10, 0, 7);
        x.key(3);
        x.attempt(9);
        x.attempt(10);
        text(x, "can=1;", true);
        x.hand(1);
        x.hand(1);
        x.image();
        tape(x, "grip 1;");
        x.seed(99);
        int[] want = {4, 2, 1, 1, 2, 2, 2, 50, 1, 1, 2, 1, 20, 99, NONE};
        for (int what = 0; what < want.length; what++) {
            due("count(" + what + ")", x.count(what), want[what]);
        }
        due("count(-1)", x.count(-1), NONE);
    }
}
