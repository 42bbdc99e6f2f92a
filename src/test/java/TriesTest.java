import java.util.ArrayList;
import java.util.List;

/** The edges of the box, of its heaps and of tries: each step, each draw, each cell. */
public final class TriesTest extends Checks {
    public static void main(String[] args) {
        about("its number; -1: there are 24");
        fullOfThings();
        about("1; 0: it lies in no HEAP");
        liesInNoHeap();
        about("0 the CELL where it lies (NONE: IN, -2: TAKEN), 1 its LEVEL (NONE if it lies nowhere)");
        liesNowhere();
        about("The THING on top of a CELL (or how high its HEAP is); NONE");
        heights();
        about("The HOLE is a CELL (63 at first)");
        holes();
        about("TIME: 0 to 14 (14 at first); PRICE (0 to 99; 1 at first); the hour (0 to 23; 0 at first)");
        firstSettings();
        about("0 MISSED (no THING there; also at the HOLE, or more than TIME CELLS from HOME, in x and y together)");
        missed();
        about("a coin of PRICE");
        prices();
        about("STEP 0: it closes; then it rises, a STEP for each level up to 9; then it goes to the HOLE");
        steps();
        about("grip less a tenth (cut) of slip times k");
        tenths();
        about("of the CELLS right, below, left, above those on top that have its LOCK (if that is not 0)");
        locks();
        about("they lie on top of its HEAP then, in order");
        letGoInOrder();
        about("4 WIRED (one of the GRIPPED is; nothing moves); the first of: MISSED, WIRED, then as told");
        wired();
        about("since (tries behind the latest that was PAID, or the first, this one with it)");
        since();
        about("a RECORD, 200 at most; -1: the RECORD has 200");
        fullRecord();
        about("A DRAW of n by the SEED (1 at first): it wraps; what its bits 16 to 30 leave by n");
        draws();
        about("The LOT of a TRY: a DRAW of lots (none, if lots is 1: it is 0 then)");
        oneLot();
        about("A LOT is 0 to lots less 1: what is told by it is what the CLAW has");
        forceByLot();
        about("Beyond the box: the nearest CELL of it");
        beyondTheBox();
        about("a DRAW of all its weights together (weight by weight as they are told), then the TRY");
        weightByWeight();
        about("A HAND: its number; -1: there are 6");
        fullOfHands();
        end();
    }

    private static void fullOfThings() {
        ClawBoxes x = ruled("grip 9;");
        x.image();
        for (int i = 0; i < 24; i++) {
            due("number", x.lay(10 + i, 1, 0, i), i);
        }
        due("a 25th", x.lay(5, 2, 0, 0), -1);
        due("no THING more", x.count(0), 24);
        due("none on its CELL", x.top(5, false), NONE);
        x.key(0);
        due("one TAKEN is a THING still", x.lay(5, 2, 0, 0), -1);
        x.attempt(11);
        due("one IN is a THING still", x.lay(5, 2, 0, 0), -1);
        x.refill();
        due("behind a REFILL", x.lay(5, 2, 0, 0), -1);
        x.restore();
        due("gone by restore", x.count(0), 0);
        due("numbered from 0 on again", x.lay(5, 2, 0, 0), 0);
    }

    private static void liesInNoHeap() {
        ClawBoxes x = ruled("grip 9;");
        x.lay(0, 1, 0, 0);
        x.lay(0, 1, 0, 0);
        x.lay(0, 1, 0, 0);
        due("the lowest", x.key(0), 1);
        due("it is TAKEN", x.key(0), 0);
        due("one above it sinks", x.thing(1, 1), 0);
        due("the top one sinks", x.thing(2, 1), 1);
        x.attempt(0);
        due("it is IN", x.key(2), 0);
        due("IN still", x.thing(2, 0), NONE);
        due("the last one", x.key(1), 1);
        due("an empty HEAP", x.top(0, false), NONE);
        due("TAKEN", x.count(3), 2);
        x.refill();
        due("it lies there again", x.key(0), 1);
    }

    private static void liesNowhere() {
        ClawBoxes x = ruled("grip 9;");
        x.lay(0, 1, 2, 3);
        x.lay(62, 4, 5, 6);
        x.key(0);
        x.attempt(62);
        int[] taken = {-2, NONE, 1, 2, 3, 0};
        int[] in = {NONE, NONE, 4, 5, 6, 0};
        for (int what = 0; what < 6; what++) {
            due("TAKEN, " + what, x.thing(0, what), taken[what]);
            due("IN, " + what, x.thing(1, what), in[what]);
        }
        due("wired, though it lies nowhere", x.wire(0, true) ? 1 : 0, 0);
        due("it is", x.thing(0, 5), 1);
    }

    private static void heights() {
        ClawBoxes x = new ClawBoxes();
        due("empty", x.top(0, false), NONE);
        due("0 high", x.top(0, true), 0);
        due("the HOLE", x.top(63, false), NONE);
        due("the HOLE, 0 high", x.top(63, true), 0);
        for (int i = 0; i < 24; i++) {
            x.lay(7, 1, 0, 0);
            due("top", x.top(7, false), i);
            due("height", x.top(7, true), i + 1);
            due("LEVEL", x.thing(i, 1), i);
        }
        due("the lowest", x.thing(0, 1), 0);
        for (int i = 23; i >= 0; i--) {
            x.key(i);
            due("top", x.top(7, false), i - 1);
            due("height", x.top(7, true), i);
        }
    }

    private static void holes() {
        ClawBoxes x = new ClawBoxes();
        due("63 at first", x.hole(0), 63);
        due("0", x.hole(0), 0);
        due("63 is a CELL like others now", x.lay(63, 1, 0, 0), 0);
        refused(WRONG, "the HOLE at 0", () -> x.lay(0, 1, 0, 0));
        refused(WRONG, "a THING lies at 63", () -> x.hole(63));
        due("the HOLE still", x.hole(62), 0);
        x.key(0);
        due("none lies there now", x.hole(63), 62);
        ClawBoxes y = ruled("grip 9;");
        y.lay(62, 1, 0, 0);
        y.attempt(62);
        due("one that is IN does not lie there", y.hole(62), 63);
    }

    private static void firstSettings() {
        ClawBoxes x = new ClawBoxes();
        int[] first = {14, 1, 0};
        int[] most = {14, 99, 23};
        for (int what = 0; what < 3; what++) {
            int w = what;
            due("at first", x.set(what, 0), first[what]);
            due("least", x.set(what, most[what]), 0);
            refused(WRONG, "too large", () -> x.set(w, most[w] + 1));
            refused(WRONG, "too small", () -> x.set(w, -1));
            due("most, still", x.set(what, first[what]), most[what]);
        }
        due("SEED 1 at first", x.seed(Integer.MIN_VALUE), 1);
        due("any SEED", x.seed(0), Integer.MIN_VALUE);
        due("0", x.seed(-1), 0);
        due("-1", x.seed(1), -1);
    }

    private static void missed() {
        for (int cell = 0; cell < 64; cell++) {
            int far = cell % 8 + cell / 8;
            ClawBoxes x = ruled("grip 99;");
            x.hole(cell == 0 ? 63 : 0);
            due("no THING at " + cell, x.attempt(cell), 0);
            x.lay(cell, 99, 0, 0);
            if (far > 0) {
                x.set(0, far - 1);
                due("too far at " + cell, x.attempt(cell), 0);
                due("it lies as it lay", x.thing(0, 0), cell);
            }
            x.set(0, far);
            due("in reach at " + cell, x.attempt(cell), 5);
            due("none there now", x.attempt(cell), 0);
            due("NONE: not LET GO", x.record(0, 2), NONE);
        }
        ClawBoxes y = ruled("grip 99;");
        due("the HOLE", y.attempt(63), 0);
        y.lay(62, 1, 1, 0);
        y.lay(55, 1, 1, 0);
        due("the HOLE between locked ones", y.attempt(63), 0);
        y.set(0, 11);
        y.lay(61, 1, 1, 0);
        y.lay(53, 1, 1, 0);
        due("61 is too far", y.attempt(61), 0);
        due("53 is not", y.attempt(53), 5);
        due("61 is gripped beside it", y.thing(2, 0), NONE);
    }

    private static void prices() {
        ClawBoxes x = new ClawBoxes();
        x.attempt(1);
        due("1 at first", x.count(6), 1);
        x.set(1, 0);
        x.attempt(1);
        due("0: no coin", x.count(6), 1);
        due("this one's with it", x.record(1, 6), 1);
        x.set(1, 99);
        x.attempt(1);
        due("99", x.count(6), 100);
        due("this one's with it", x.record(2, 6), 100);
        x.set(1, 3);
        due("what was put in stays", x.count(6), 100);
    }

    /** The cells that the claw comes over behind its rise, the hole last. */
    private static List<Integer> way(int cell, int hole) {
        List<Integer> all = new ArrayList<>();
        int x = cell % 8;
        int y = cell / 8;
        while (x != hole % 8) {
            x += x < hole % 8 ? 1 : -1;
            all.add(8 * y + x);
        }
        while (y != hole / 8) {
            y += y < hole / 8 ? 1 : -1;
            all.add(8 * y + x);
        }
        return all;
    }

    /** With slip 10 the force is one less at each step: each hour holds one step longer. */
    private static void stepped(int cell, int hole, int level) {
        ClawBoxes x = ruled("grip 40+hour;slip 10;");
        x.hole(hole);
        for (int i = 0; i < level; i++) {
            x.lay(cell, 1, 0, 0);
        }
        x.lay(cell, 41, 0, 0);
        List<Integer> way = way(cell, hole);
        int rises = level < 9 ? 9 - level : 0;
        for (int hour = 0; hour < 24; hour++) {
            x.image();
            x.set(2, hour);
            int fails = hour;
            int gone = fails - rises;
            int outcome = fails == 0 ? 1 : gone <= 0 ? 2 : gone < way.size() ? 3 : 5;
            String what = "from " + cell + " to " + hole + ", level " + level + ", failing at step " + fails;
            due(what, x.attempt(cell), outcome);
            due(what + ", LET GO", x.record(0, 2), outcome == 3 ? way.get(gone - 1) : NONE);
            due(what + ", then", x.thing(level, 0), outcome == 3 ? way.get(gone - 1) : outcome == 5 ? NONE : cell);
            due(what + ", height", x.top(cell, true), outcome == 3 || outcome == 5 ? level : level + 1);
            due(what + ", can", x.record(0, 9), outcome == 5 ? 1 : 0);
            x.restore();
        }
    }

    private static void steps() {
        int[] levels = {0, 1, 4, 8, 9, 10, 23};
        for (int level : levels) {
            stepped(0, 63, level);
            stepped(62, 63, level);
            stepped(55, 63, level);
            stepped(27, 30, level);
            stepped(54, 14, level);
        }
        stepped(63, 0, 0);
        stepped(7, 56, 0);
        stepped(56, 7, 0);
        stepped(9, 0, 2);
        stepped(1, 0, 9);
        stepped(8, 0, 9);
    }

    private static void tenths() {
        int[] first = {0, 10, 5, 4, 3, 2, 2, 2, 2, 2, 1, 1};
        int[] second = {0, 0, 10, 7, 5, 4, 4, 3, 3, 3, 2, 2};
        int[] fifth = {0, 0, 0, 0, 13, 10, 9, 8, 7, 6, 5, 5};
        for (int slip = 1; slip <= 11; slip++) {
            failsAt(slip, 0, first[slip]);
            failsAt(slip, 1, second[slip]);
            failsAt(slip, 4, fifth[slip]);
        }
        failsAt(0, 0, 0);
        ClawBoxes x = ruled("grip 999;slip 999;");
        x.lay(54, 99, 0, 0);
        due("999 less 99 nine times and 9 more", x.attempt(54), 3);
        due("at the first CELL: 999 - 999 < 99", x.record(0, 2), 55);
        ClawBoxes y = ruled("grip 198;slip 999;");
        y.lay(54, 99, 0, 0);
        due("198 - 99 is not below 99, 198 - 199 is", y.attempt(54), 2);
    }

    /** From level 9 on there is no rise: where it is let go tells the step. */
    private static void failsAt(int slip, int spare, int step) {
        ClawBoxes x = ruled("grip " + (20 + spare) + ";slip " + slip + ";");
        for (int i = 0; i < 9; i++) {
            x.lay(0, 1, 0, 0);
        }
        x.lay(0, 20, 0, 0);
        String what = "slip " + slip + ", " + spare + " to spare";
        due(what, x.attempt(0), step == 0 ? 5 : 3);
        due(what + ", at", x.record(0, 2), step == 0 ? NONE : way(0, 63).get(step - 1));
    }

    private static void locks() {
        int[] beside = {1, 8, -1, -8};
        for (int cell = 0; cell < 64; cell++) {
            for (int other = 0; other < 64; other++) {
                boolean near = Math.abs(cell % 8 - other % 8) + Math.abs(cell / 8 - other / 8) == 1;
                int apart = Math.abs(cell - other);
                if (near || apart == 1 || apart == 7 || apart == 9 || apart == 63 || apart == 56) {
                    pair(cell, other, near);
                }
            }
        }
        ClawBoxes x = ruled("grip 99;");
        for (int step : beside) {
            x.lay(27 + step, 1, 0, 0);
        }
        x.lay(27, 1, 0, 0);
        due("LOCK 0", x.attempt(27), 5);
        due("grips one alone", x.count(2), 1);
        ClawBoxes y = ruled("grip 99;");
        y.lay(27, 1, 7, 0);
        y.lay(28, 1, 6, 0);
        y.lay(26, 1, 7, 0);
        y.lay(26, 1, 0, 0);
        y.lay(25, 1, 7, 0);
        due("another LOCK, a covered one, one two CELLS away", y.attempt(27), 5);
        due("grip one alone", y.count(2), 1);
        ClawBoxes z = ruled("grip 99;");
        z.lay(27, 1, 7, 0);
        z.lay(27, 1, 7, 0);
        z.lay(28, 1, 7, 0);
        z.lay(28, 1, 7, 0);
        due("the top ones alone", z.attempt(27), 5);
        due("two", z.count(2), 2);
        due("the lower one", z.thing(0, 0), 27);
        due("the lower one beside", z.thing(2, 0), 28);
    }

    private static void pair(int cell, int other, boolean near) {
        ClawBoxes x = ruled("grip 3;");
        int hole = 0;
        while (hole == cell || hole == other) {
            hole++;
        }
        x.hole(hole);
        x.lay(cell, 2, 7, 0);
        x.lay(other, 2, 7, 0);
        due("3 are too little for 2 and 2 at " + cell + " and " + other, x.attempt(cell), near ? 1 : 5);
    }

    private static void letGoInOrder() {
        ClawBoxes x = ruled("grip 60;slip 10;");
        x.lay(27, 9, 4, 0);
        x.lay(19, 9, 4, 0);
        x.lay(26, 9, 4, 0);
        x.lay(35, 9, 4, 0);
        x.lay(28, 9, 4, 0);
        x.lay(55, 9, 4, 0);
        due("16 steps", x.attempt(27), 3);
        due("9 up, 4 in x, 3 in y", x.record(0, 2), 55);
        int[] order = {5, 0, 4, 3, 2, 1};
        for (int level = 0; level < 6; level++) {
            due("what lay there, the first, right, below, left, above", x.thing(order[level], 1), level);
        }
        due("all off their CELLS", x.top(27, true) + x.top(28, true) + x.top(35, true) + x.top(26, true) + x.top(19, true), 0);
        ClawBoxes y = ruled("grip 12;slip 10;");
        y.lay(10, 1, 0, 0);
        y.lay(9, 1, 5, 0);
        y.lay(10, 1, 5, 0);
        y.lay(8, 1, 5, 0);
        due("on the CELL of one of the GRIPPED", y.attempt(9), 3);
        due("the first CELL", y.record(0, 2), 10);
        due("the one below", y.thing(0, 1), 0);
        due("the first", y.thing(1, 1), 1);
        due("right", y.thing(2, 1), 2);
        due("left", y.thing(3, 1), 3);
    }

    private static void wired() {
        int[] cells = {27, 28, 35, 26, 19};
        for (int one = 0; one < 5; one++) {
            ClawBoxes x = ruled("grip 99;");
            for (int cell : cells) {
                x.lay(cell, 9, 4, 0);
            }
            x.wire(one, true);
            due("WIRED at " + cells[one], x.attempt(27), 4);
            due("nothing moves", x.count(1), 5);
            x.force(NONE);
            due("WIRED ahead of WEAK", x.attempt(27), 4);
            x.set(0, 5);
            due("MISSED ahead of WIRED", x.attempt(27), 0);
            due("a coin each", x.count(6), 3);
            x.set(0, 14);
            x.force(0);
            x.wire(one, false);
            due("no more", x.attempt(27), 5);
        }
        ClawBoxes y = ruled("grip 99;");
        y.lay(27, 9, 0, 0);
        y.lay(27, 9, 4, 0);
        y.lay(28, 9, 3, 0);
        y.lay(26, 9, 4, 0);
        y.lay(26, 9, 1, 0);
        y.wire(0, true);
        y.wire(2, true);
        y.wire(3, true);
        due("WIRED ones that are not GRIPPED", y.attempt(27), 5);
        due("not one more", y.count(2), 1);
    }

    private static void since() {
        ClawBoxes x = ruled("grip 9;");
        due("of the first TRY", x.count(5), 1);
        x.lay(1, 1, 0, 5);
        x.lay(2, 1, 0, 6);
        x.attempt(0);
        x.attempt(0);
        due("of the third", x.count(5), 3);
        x.attempt(1);
        due("told for the third", x.record(2, 5), 3);
        due("behind the one that was PAID", x.count(5), 1);
        x.attempt(2);
        due("told for the next", x.record(3, 5), 1);
        due("paid ahead of it", x.record(3, 7), 5);
        due("behind it", x.count(5), 1);
        x.attempt(0);
        due("behind a MISSED one", x.count(5), 2);
        due("paid by then", x.record(4, 7), 11);
        due("tries", x.record(4, 4), 5);
    }

    private static void fullRecord() {
        ClawBoxes x = ruled("grip 9;lots 3;");
        x.hand(0_000010000);
        x.lay(1, 1, 0, 5);
        for (int i = 0; i < 199; i++) {
            due("a TRY", x.attempt(0), 0);
        }
        x.image();
        due("the 200th", x.play(0, 0), 0);
        due("its tries", x.record(199, 4), 200);
        int seed = x.count(13);
        due("a 201st that would be PAID", x.attempt(1), -1);
        due("by a HAND", x.play(0, 1), -1);
        due("no DRAW", x.count(13), seed);
        due("no TRY", x.count(4), 200);
        due("no coin", x.count(6), 200);
        due("since", x.count(5), 201);
        due("nothing moved", x.thing(0, 0), 1);
        due("CAN still", x.can(false), 1);
        due("WORTH still", x.worth(0, 1, 20), 4);
        due("a PLAYER still", x.player(1, 1, 2, 3), 1);
        x.restore();
        due("199 by an IMAGE: room for one", x.attempt(1), 5);
        due("and no more", x.attempt(1), -1);
        x.refill();
        due("empty by REFILL: room again", x.attempt(1), 5);
        due("its tries", x.record(0, 4), 1);
    }

    /** The seed behind one draw, worked in whole numbers without a wrap. */
    private static int drawn(int seed) {
        return (int) Math.floorMod(seed * 1103515245L + 12345L, 1L << 32);
    }

    private static int bits(int seed) {
        int v = 0;
        for (int bit = 30; bit >= 16; bit--) {
            v = 2 * v + ((seed & (1 << bit)) == 0 ? 0 : 1);
        }
        return v;
    }

    private static void draws() {
        int[] seeds = {1, 0, -1, 2, 77, Integer.MAX_VALUE, Integer.MIN_VALUE, 0x7fff0000, 0x80010000, -123456789};
        int[] lots = {2, 3, 7, 11, 18, 35, 36};
        for (int n : lots) {
            ClawBoxes x = ruled("lots " + n + ";");
            int k = 0;
            for (int first : seeds) {
                x.seed(first);
                int seed = first;
                for (int i = 0; i < 3; i++) {
                    x.attempt(0);
                    seed = drawn(seed);
                    due("SEED behind " + first, x.count(13), seed);
                    due("LOT of " + n, x.record(k, 3), bits(seed) % n);
                    k++;
                }
            }
        }
        ClawBoxes y = ruled("grip 20*lot;lots 99;");
        y.lay(9, 20, 0, 0);
        y.seed(1);
        y.attempt(9);
        due("lots 36 at most", y.record(0, 3), 16838 % 36);
    }

    private static void oneLot() {
        String[] texts = {"lots 1;", "lots 0;", "", "lots 0-7;", "lots 5 if lot=1;"};
        for (String s : texts) {
            ClawBoxes x = ruled(s);
            x.attempt(0);
            due("no DRAW by '" + s + "'", x.count(13), 1);
            due("LOT", x.record(0, 3), 0);
        }
        ClawBoxes y = ruled("grip 5 if lot=0;lots 2;");
        y.lay(0, 5, 0, 0);
        y.set(0, 0);
        y.attempt(63);
        due("a MISSED TRY draws, too", y.count(13), 1103527590);
        int seed = y.count(13);
        y.wire(0, true);
        y.attempt(0);
        due("a WIRED one, too", y.count(13), drawn(seed));
        ClawBoxes z = ruled("lots tries;");
        z.attempt(0);
        due("the first of 1", z.count(13), 1);
        z.attempt(0);
        due("the second of 2", z.count(13), drawn(1));
    }

    private static void forceByLot() {
        ClawBoxes x = ruled("grip 20 if lot=hour;slip 10*lot;lots 3;");
        int paid = 0;
        for (int i = 0; i < 60; i++) {
            x.refill();
            x.set(2, i % 3);
            if (x.count(0) == 0) {
                x.lay(62, 11, 0, 1);
            }
            int lot = bits(drawn(x.count(13))) % 3;
            int outcome = lot != i % 3 ? 1 : lot == 2 ? 2 : 5;
            due("by LOT " + lot + ", in hour " + i % 3, x.attempt(62), outcome);
            paid += outcome == 5 ? 1 : 0;
        }
        due("some were PAID: 1", paid > 0 ? 1 : 0, 1);
    }

    private static void beyondTheBox() {
        for (int i = 0; i < 9; i++) {
            ClawBoxes x = new ClawBoxes();
            x.hand(1 << 3 * (8 - i));
            for (int aim = 0; aim < 64; aim++) {
                x.play(0, aim);
                int left = aim % 8 == 0 ? 0 : aim % 8 - 1;
                int right = aim % 8 == 7 ? 7 : aim % 8 + 1;
                int above = aim / 8 == 0 ? 0 : aim / 8 - 1;
                int below = aim / 8 == 7 ? 7 : aim / 8 + 1;
                int column = i % 3 == 0 ? left : i % 3 == 1 ? aim % 8 : right;
                int row = i / 3 == 0 ? above : i / 3 == 1 ? aim / 8 : below;
                due("weight " + i + " aims at " + aim, x.record(aim, 0), 8 * row + column);
            }
        }
    }

    private static void weightByWeight() {
        int[] hands = {0_123456701, 0_070000010, 0_777777777, 0_100000001, 0_010000000};
        int[][] weights = {{1, 2, 3, 4, 5, 6, 7, 0, 1}, {0, 7, 0, 0, 0, 0, 0, 1, 0}, {7, 7, 7, 7, 7, 7, 7, 7, 7},
            {1, 0, 0, 0, 0, 0, 0, 0, 1}, {0, 1, 0, 0, 0, 0, 0, 0, 0}};
        int[] comes = {18, 19, 20, 26, 27, 28, 34, 35, 36};
        for (int h = 0; h < hands.length; h++) {
            ClawBoxes x = ruled("lots 5;");
            x.hand(hands[h]);
            List<Integer> urn = new ArrayList<>();
            for (int i = 0; i < 9; i++) {
                for (int w = 0; w < weights[h][i]; w++) {
                    urn.add(comes[i]);
                }
            }
            due("all together", x.weights(0), urn.size());
            int seed = -h;
            x.seed(seed);
            for (int k = 0; k < 120; k++) {
                x.play(0, 27);
                seed = drawn(seed);
                due("hand " + h + ", play " + k, x.record(k, 0), urn.get(bits(seed) % urn.size()));
                seed = drawn(seed);
                due("its LOT behind it", x.record(k, 3), bits(seed) % 5);
            }
            due("two DRAWS each, of 1 weight too", x.count(13), seed);
        }
    }

    private static void fullOfHands() {
        ClawBoxes x = new ClawBoxes();
        int[] digits = {1, 134217727, 0_100000000, 8, 0_001000000, 0_700000000};
        int[] all = {1, 63, 1, 1, 1, 7};
        for (int i = 0; i < 6; i++) {
            due("its number", x.hand(digits[i]), i);
        }
        due("a 7th", x.hand(8), -1);
        due("6", x.count(10), 6);
        for (int i = 0; i < 6; i++) {
            due("as they were", x.weights(i), all[i]);
        }
        refused(NO_SUCH, "no 7th", () -> x.weights(6));
    }
}
