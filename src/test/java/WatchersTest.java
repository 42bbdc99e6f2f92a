/** The edges of what watchers ask: chances, waits, fillings, laws, players, images. */
public final class WatchersTest extends Checks {
    public static void main(String[] args) {
        about("CAN: the least such CELL; NONE");
        can();
        about("ODDS of a HAND; the LOT (0 to 35)");
        odds();
        about("WHEN: the least n (1 to 60); NONE");
        when();
        about("FITTING PROGRAMS, as bits");
        fitting();
        fittingByLots();
        about("STRANGE: the first TRY that could not; NONE: it is FITTING");
        strange();
        about("By how many FITTING PROGRAMS the next TRY at a CELL would be PAID (by LOT 0)");
        guess();
        about("REFILL: of how many THINGS the CELL (or IN, TAKEN) is another one then");
        refill();
        about("WORTH is VALUE of what falls IN by that less PRICE (k 1 to 20)");
        worth();
        about("BEST WAIT: the k of greatest WORTH, of these the least");
        bide();
        about("SET: the least n (1 to 200); NONE: none, or no THING lies there, or the HAND never hits");
        settle();
        about("BACK (the whole number not above it); VOID: no THING lies there, or the HAND never hits");
        back();
        about("BROKEN: the first for which it does not (as many as the RECORD has: the next one); NONE: it is KEPT");
        broken();
        about("CUT (TICKS go on from 99 to 0); a RUSE later, unless since is a told number or more");
        cut();
        about("as long as it has some of both; (0 at least); (99 at most)");
        player();
        about("FAIR: of FORMS the first; NONE: there is none such");
        fair();
        about("An IMAGE: how many there are; -1: there are 3; restore: how many are left; -1: there is none");
        images();
        about("All is as in the latest IMAGE (THINGS told since are gone)");
        restored();
        about("count: NONE for others");
        count();
        end();
    }

    private static void can() {
        ClawBoxes x = new ClawBoxes();
        due("a new object", x.can(false), NONE);
        due("a new object, all LOTS", x.can(true), NONE);
        ClawBoxes y = ruled("grip 99;");
        due("no THING", y.can(false), NONE);
        y.hole(30);
        y.lay(63, 99, 0, 0);
        due("63", y.can(false), 63);
        y.lay(62, 99, 0, 0);
        due("the least", y.can(true), 62);
        y.lay(0, 99, 0, 0);
        due("0", y.can(false), 0);
        y.set(0, 0);
        y.wire(2, true);
        due("one WIRED, the others too far", y.can(false), NONE);
        ClawBoxes z = ruled("grip 10 if lot=35;lots 36;");
        text(z, "grip 10 if lot=36;lots 99;", false);
        text(z, "grip 10 if not lot=35;lots 36;", false);
        text(z, "grip 10;lots 36;", false);
        text(z, "grip 10 if lot=1;lots 1;", false);
        text(z, "grip 10;grip 0 if lot=1;lots 1;", false);
        z.lay(9, 10, 0, 0);
        due("by LOT 35 alone", z.can(false), 9);
        due("not by all", z.can(true), NONE);
        z.force(1);
        due("LOT 36 is none", z.can(false), NONE);
        z.force(2);
        due("all but LOT 35", z.can(true), NONE);
        z.force(3);
        due("all 36", z.can(true), 9);
        z.force(4);
        due("LOT 1 is none if lots is 1", z.can(false), NONE);
        z.force(5);
        due("LOT 0 is all if lots is 1", z.can(true), 9);
        due("no TRY, no DRAW", z.count(4) + z.count(13), 1);
        ClawBoxes w = ruled("grip 10 if lot=2;lots 3 if lot=0;");
        w.lay(9, 10, 0, 0);
        due("lots worked with lot 0", w.can(false), 9);
        due("by one of three", w.can(true), NONE);
    }

    private static void odds() {
        ClawBoxes x = ruled("grip lot;lots 2;");
        x.hand(0_123456701);
        x.hand(0_777777777);
        due("no THING", x.odds(0, 0, 35), 0);
        x.lay(0, 35, 0, 0);
        x.lay(62, 1, 0, 0);
        x.lay(54, 1, 0, 0);
        due("LOT 35 is told, though lots is 2", x.odds(0, 0, 35), 1 + 2 + 4 + 5);
        due("LOT 34", x.odds(0, 0, 34), 0);
        due("all of the corner", x.odds(1, 0, 35), 4 * 7);
        due("aims at the HOLE", x.odds(1, 63, 1), 7 + 7 + 7);
        due("weights 1 to 9 of the lower right corner", x.odds(0, 63, 1), 1 + 4 + 7);
        due("LOT 0", x.odds(1, 63, 0), 0);
        ClawBoxes y = ruled("grip 9 if tries=2;");
        y.hand(0_000010000);
        y.lay(9, 9, 0, 0);
        due("not now", y.odds(0, 9, 0), 0);
        y.attempt(0);
        due("now", y.odds(0, 9, 0), 1);
        refused(WRONG, "LOT 36", () -> x.odds(0, 0, 36));
        refused(WRONG, "LOT -1", () -> x.odds(0, 0, -1));
        due("no TRY, no DRAW", x.count(4) + x.count(13), 1);
    }

    private static void when() {
        ClawBoxes x = new ClawBoxes();
        text(x, "grip 9;", false);
        text(x, "grip 9 if since=60;", false);
        text(x, "grip 9 if since>60;", false);
        text(x, "grip 9 if coins=180;", false);
        text(x, "grip 9 if tries=61 or lot=1;lots 9;", false);
        x.lay(5, 9, 0, 0);
        due("1 is the least", x.when(5, 0), 1);
        due("60", x.when(5, 1), 60);
        due("61 is too late", x.when(5, 2), NONE);
        due("never 180 coins", x.when(5, 3), NONE);
        x.set(1, 3);
        due("180 coins by the 60th", x.when(5, 3), 60);
        due("by LOT 0", x.when(5, 4), NONE);
        x.attempt(0);
        due("one nearer", x.when(5, 4), 60);
        due("one nearer", x.when(5, 1), 59);
        due("one nearer", x.when(5, 2), 60);
        text(x, "grip 9 if lot=0;lots 9;", false);
        due("LOT 0 itself", x.when(5, 5), 1);
        x.set(1, 0);
        due("no coin more", x.when(5, 3), NONE);
        due("no THING", x.when(6, 0), NONE);
        due("the HOLE", x.when(63, 0), NONE);
        x.set(0, 4);
        due("too far", x.when(5, 0), NONE);
        x.set(0, 5);
        x.wire(0, true);
        due("WIRED", x.when(5, 0), NONE);
        due("nothing changed", x.count(4), 1);
    }

    private static void fitting() {
        ClawBoxes x = new ClawBoxes();
        due("no PROGRAM", x.fitting(), 0);
        x.lay(9, 20, 0, 1);
        x.attempt(9);
        due("no PROGRAM, a TRY", x.fitting(), 0);
        ClawBoxes y = ruled("grip 20;");
        text(y, "grip 20 if lot=35;lots 36;", false);
        text(y, "grip 20 if lot=36;lots 99;", false);
        text(y, "", false);
        text(y, "grip 20;slip 10;", false);
        text(y, "grip 42;slip 10;", false);
        y.lay(9, 20, 0, 1);
        due("an empty RECORD: all six", y.fitting(), 63);
        y.attempt(9);
        due("PAID by LOT 35 at the most, or by spare force", y.fitting(), 1 + 2 + 32);
        y.refill();
        due("an empty RECORD again", y.fitting(), 63);
        y.attempt(0);
        y.attempt(63);
        due("MISSED by all", y.fitting(), 63);
        ClawBoxes z = ruled("grip 22;slip 10;");
        text(z, "grip 23;slip 10;", false);
        text(z, "grip 22;", false);
        text(z, "grip 19;", false);
        z.lay(9, 20, 0, 1);
        for (int i = 0; i < 9; i++) {
            z.lay(10, 1, 0, 1);
        }
        z.lay(10, 20, 0, 1);
        due("let go", z.attempt(10), 3);
        due("at the third CELL", z.record(0, 2), 13);
        due("at another CELL by 1, and not by 2, 3", z.fitting(), 1);
        z.refill();
        due("slipped", z.attempt(9), 2);
        due("the STEP as it rises is free", z.fitting(), 1 + 2);
    }

    private static void fittingByLots() {
        ClawBoxes x = ruled("grip 20;");
        text(x, "grip 20 if lot<0;lots 36;", false);
        text(x, "grip 20 if lot=0;lots 36;", false);
        text(x, "grip 20 if lot=4;lots 5 if lot=0;", false);
        text(x, "grip 20 if lot=5;lots 5;", false);
        text(x, "grip 20 if lot=35;lots 36;", false);
        x.lay(9, 20, 0, 1);
        x.attempt(9);
        due("by LOTS 0 to lots less 1 alone", x.fitting(), 1 + 4 + 8 + 32);
        due("by LOT 0", x.guess(9), 0);
        x.lay(9, 20, 0, 1);
        due("of these by LOT 0", x.guess(9), 2);
    }

    private static void strange() {
        ClawBoxes x = ruled("");
        text(x, "grip 9;", false);
        text(x, "grip 9 if tries>199;", false);
        text(x, "grip 9 if tries>200;", false);
        x.lay(1, 9, 0, 0);
        due("an empty RECORD", x.strange(1), NONE);
        for (int i = 0; i < 200; i++) {
            x.attempt(1);
        }
        due("FITTING", x.strange(0), NONE);
        due("the first", x.strange(1), 0);
        due("the last", x.strange(2), 199);
        due("behind the last", x.strange(3), NONE);
        due("as bits", x.fitting(), 1 + 8);
        x.refill();
        due("an empty RECORD again", x.strange(1), NONE);
    }

    private static void guess() {
        ClawBoxes x = new ClawBoxes();
        x.lay(1, 9, 0, 0);
        due("no PROGRAM", x.guess(1), 0);
        for (int i = 0; i < 6; i++) {
            text(x, "grip 9-lot if tries>" + i + ";lots 3;", false);
        }
        due("the first TRY", x.guess(1), 1);
        due("no THING", x.guess(2), 0);
        due("the HOLE", x.guess(63), 0);
        for (int i = 0; i < 4; i++) {
            x.attempt(2);
        }
        due("the fifth", x.guess(1), 5);
        x.attempt(2);
        due("all six", x.guess(1), 6);
        x.wire(0, true);
        due("WIRED", x.guess(1), 0);
        x.wire(0, false);
        x.attempt(1);
        due("WEAK: none fits that was strong by each LOT or some", x.fitting(), 63);
        due("all six, as lot 2 is weak", x.guess(1), 6);
    }

    private static void refill() {
        ClawBoxes x = ruled("grip 9;");
        due("no THING", x.refill(), 0);
        x.lay(1, 9, 0, 4);
        x.lay(2, 9, 0, 5);
        x.lay(2, 9, 0, 6);
        x.lay(3, 9, 0, 7);
        due("none moved", x.refill(), 0);
        x.set(1, 5);
        x.set(2, 6);
        x.set(0, 9);
        x.attempt(1);
        x.key(1);
        x.key(2);
        due("IN, TAKEN, TAKEN", x.refill(), 3);
        due("lower", x.thing(1, 1), 0);
        due("upper", x.thing(2, 1), 1);
        x.key(3);
        x.hole(3);
        due("TAKEN, now IN", x.refill(), 1);
        due("IN", x.thing(3, 0), NONE);
        due("IN stays IN", x.refill(), 0);
        x.hole(60);
        due("IN, laid again", x.refill(), 1);
        due("there", x.thing(3, 0), 3);
        x.key(1);
        due("the upper one sank", x.thing(2, 1), 0);
        due("its LEVEL is no other CELL", x.refill(), 1);
        due("back", x.thing(2, 1), 1);
        x.attempt(1);
        x.attempt(0);
        x.attempt(0);
        x.seed(5);
        due("since, ahead of it", x.count(5), 3);
        x.refill();
        int[] left = {4, 4, 0, 0, 0, 1, 0, 0, 1, 0, 0, 0, 0, 5};
        for (int what = 0; what < left.length; what++) {
            due("count(" + what + ")", x.count(what), left[what]);
        }
        refused(NO_SUCH, "the RECORD is empty", () -> x.record(0, 0));
        due("TIME stays", x.set(0, 14), 9);
        due("PRICE stays", x.set(1, 1), 5);
        due("the hour stays", x.set(2, 0), 6);
        due("the HOLE stays", x.hole(63), 60);
        due("the PROGRAM stays", x.force(0), 0);
    }

    private static void worth() {
        ClawBoxes x = ruled("grip 9 if tries=20 or tries=1;");
        x.lay(1, 5, 3, 999);
        x.lay(2, 4, 3, 998);
        x.lay(3, 8, 0, 7);
        x.set(1, 99);
        due("the first", x.worth(0, 1, 1), 999 + 998 - 99);
        due("the 20th", x.worth(0, 1, 20), 999 + 998 - 99);
        due("the 19th is WEAK", x.worth(0, 1, 19), -99);
        due("the others took it", x.worth(1, 2, 20), -99);
        due("the others took another", x.worth(1, 3, 20), 7 - 99);
        due("no THING", x.worth(0, 0, 1), -99);
        x.set(1, 0);
        due("no PRICE", x.worth(0, 63, 1), 0);
        due("no PRICE", x.worth(0, 1, 1), 1997);
        refused(WRONG, "k 0", () -> x.worth(0, 1, 0));
        refused(WRONG, "k 21", () -> x.worth(0, 1, 21));
        due("on a copy", x.count(4), 0);
        due("on a copy", x.count(1), 3);
        ClawBoxes v = ruled("grip 9 if lot=0;lots 9;");
        v.lay(1, 9, 0, 50);
        due("by LOT 0", v.worth(0, 1, 2), 49);
        due("no DRAW", v.count(13), 1);
        ClawBoxes y = new ClawBoxes();
        y.lay(1, 1, 0, 50);
        due("no PROGRAM in force", y.worth(1, 1, 1), -1);
        ClawBoxes z = ruled("grip 20;slip 10;");
        z.lay(39, 10, 0, 50);
        due("the others LET it GO ahead of you", z.worth(39, 55, 2), 49);
        due("and not on your CELL", z.worth(39, 47, 2), -1);
    }

    private static void bide() {
        ClawBoxes x = ruled("grip 9 if tries=20;");
        x.lay(1, 9, 0, 50);
        due("20 is the most", x.bide(0, 1), 20);
        due("all the same: the least", x.bide(0, 0), 1);
        x.attempt(0);
        due("one nearer", x.bide(0, 1), 19);
        ClawBoxes y = ruled("grip 9 if tries=21;");
        y.lay(1, 9, 0, 50);
        due("21 is too late", y.bide(0, 1), 1);
        ClawBoxes z = ruled("grip 9 if tries>4;");
        z.lay(1, 9, 0, 50);
        z.lay(2, 9, 0, 0);
        due("the least of many", z.bide(0, 1), 5);
        due("VALUE 0 is not greater", z.bide(0, 2), 1);
        due("the others take it at the 5th", z.bide(1, 1), 5);
        due("no PROGRAM in force", new ClawBoxes().bide(0, 63), 1);
        ClawBoxes w = ruled("grip 9;");
        w.lay(1, 9, 0, 10);
        w.lay(1, 9, 0, 5);
        w.lay(1, 9, 0, 90);
        w.lay(1, 9, 0, 3);
        due("the greatest lies second", w.bide(1, 1), 2);
        due("now", w.bide(0, 1), 1);
        due("on a copy", w.count(1), 4);
    }

    private static void settle() {
        ClawBoxes x = new ClawBoxes();
        x.hand(0_000010000);
        x.hand(0_000001000);
        x.hand(0_000020100);
        x.hand(0_777777777);
        due("no THING", x.settle(0, 21, 0), NONE);
        x.lay(21, 5, 0, 1);
        due("1 of 1", x.settle(0, 21, 0), 1);
        due("never hits", x.settle(1, 21, 0), NONE);
        due("200", x.settle(0, 21, 199), 200);
        due("201 is too late", x.settle(0, 21, 200), NONE);
        due("1 + 1/2", x.settle(2, 21, 0), 1);
        due("n + 1/2 is 2 or more", x.settle(2, 21, 1), 2);
        due("199 + 3/2", x.settle(2, 21, 199), 200);
        due("not 201", x.settle(2, 21, 200), NONE);
        x.set(1, 0);
        due("no PRICE", x.settle(0, 21, 0), NONE);
        x.lay(21, 5, 0, 0);
        due("no PRICE, no VALUE: the one on top", x.settle(0, 21, 0), 1);
        due("no PRICE, some LEAVE", x.settle(0, 21, 1), NONE);
        x.set(1, 99);
        due("99 each", x.settle(0, 21, 9999), 101);
        x.set(1, 50);
        due("50 each: 10000 at the 200th", x.settle(0, 21, 9999), 200);
        x.set(1, 49);
        due("49 each: 9800 at the 200th", x.settle(0, 21, 9999), NONE);
        x.set(1, 1);
        x.lay(0, 5, 0, 9);
        x.lay(7, 5, 0, 9);
        x.lay(4, 5, 0, 9);
        due("4 of 9 hit at the corner: n + 5/4", x.settle(3, 0, 0), 8);
        due("2 of 9 hit at the edge: n + 7/2", x.settle(3, 4, 0), 6);
        due("never hits but at the right edge", x.settle(1, 7, 0), 9);
        refused(WRONG, "LEAVE -1", () -> x.settle(0, 21, -1));
        refused(WRONG, "LEAVE 10000", () -> x.settle(0, 21, 10000));
    }

    private static void back() {
        ClawBoxes x = new ClawBoxes();
        x.hand(0_000010000);
        x.hand(0_000001000);
        x.hand(0_000020100);
        x.hand(0_000030400);
        x.hand(0_777777777);
        due("no THING", x.back(0, 21), VOID);
        x.lay(21, 5, 0, 0);
        due("never hits", x.back(1, 21), VOID);
        due("1", x.back(0, 21), 1);
        due("3 / 2", x.back(2, 21), 1);
        due("7 / 3", x.back(3, 21), 2);
        x.lay(21, 5, 0, 5);
        due("3 / 2 - 5, not above -3 and a half", x.back(2, 21), -4);
        due("7 / 3 - 5, not above -2 and two thirds", x.back(3, 21), -3);
        due("9 - 5", x.back(4, 21), 4);
        x.set(1, 3);
        due("21 / 3 - 5, a whole number", x.back(3, 21), 2);
        x.set(1, 0);
        due("no PRICE", x.back(3, 21), -5);
        x.set(1, 99);
        due("99 times 9 less 5", x.back(4, 21), 886);
        x.lay(21, 5, 0, 999);
        due("the one on top", x.back(0, 21), -900);
        x.key(0);
        x.key(1);
        x.key(2);
        due("none any more", x.back(0, 21), VOID);
        x.lay(7, 5, 0, 0);
        due("hits at the right edge", x.back(1, 7), 99);
    }

    private static void broken() {
        ClawBoxes x = ruled("grip 9 if tries=2;");
        text(x, "1=2;", true);
        text(x, "tries<3 and lot=0;", true);
        text(x, "can=0;", true);
        due("an empty RECORD: the next one", x.broken(0), 0);
        due("KEPT", x.broken(1), NONE);
        x.lay(1, 9, 0, 0);
        due("it can't", x.broken(2), NONE);
        x.attempt(0);
        due("the first", x.broken(0), 0);
        due("the next one, which can", x.broken(2), 1);
        x.attempt(0);
        due("the next one, tries 3", x.broken(1), 2);
        due("then it could", x.broken(2), 1);
        x.force(NONE);
        due("by the PROGRAM in force then", x.broken(2), 1);
        x.attempt(0);
        due("no more the next one", x.broken(1), 2);
        x.refill();
        due("an empty RECORD again", x.broken(1), NONE);
        due("none in force", x.broken(2), NONE);
        for (int i = 0; i < 200; i++) {
            x.attempt(0);
        }
        text(x, "tries<201;", true);
        due("there are 3 LAWS", x.count(9), 3);
        due("the third of 200", x.broken(1), 2);
        due("KEPT by 200 and the next one", x.broken(2), NONE);
        ClawBoxes y = new ClawBoxes();
        text(y, "tries<201;", true);
        text(y, "tries<200;", true);
        text(y, "tries<202;", true);
        for (int i = 0; i < 200; i++) {
            y.attempt(0);
        }
        due("as many as the RECORD has", y.broken(0), 200);
        due("the last of it", y.broken(1), 199);
        due("KEPT", y.broken(2), NONE);
    }

    private static void cut() {
        ClawBoxes x = new ClawBoxes();
        x.hand(0_123456701);
        int[] columns = {1 + 4 + 7, 2 + 5, 3 + 6 + 1};
        for (int aim = 0; aim < 100; aim += 33) {
            for (int ruse = 0; ruse < 10; ruse += 9) {
                for (int string = 0; string < 100; string++) {
                    int at = (string + 101 - aim - ruse + 100) % 100;
                    if (at < 4 || string % 20 == 0) {
                        due("aim " + aim + ", string " + string + ", ruse " + ruse, x.cut(0, aim, string, ruse, 999), at < 3 ? columns[at] : 0);
                    }
                }
            }
        }
        due("one ahead of 0 is 99", x.cut(0, 0, 99, 0, 0), 12);
        due("one behind 99 is 0", x.cut(0, 99, 0, 0, 0), 10);
        due("a RUSE of 9 from 99", x.cut(0, 99, 8, 9, 999), 7);
        due("a RUSE of 1 from 99: 99", x.cut(0, 99, 99, 1, 999), 12);
        due("since 1, owed 0", x.cut(0, 50, 50, 5, 0), 7);
        due("since 1, owed 1", x.cut(0, 50, 50, 5, 1), 7);
        due("since 1, owed 2: later", x.cut(0, 50, 50, 5, 2), 0);
        due("since 1, owed 2: later", x.cut(0, 50, 55, 5, 2), 7);
        x.attempt(0);
        due("since 2, owed 2", x.cut(0, 50, 50, 5, 2), 7);
        due("since 2, owed 3", x.cut(0, 50, 55, 5, 3), 7);
        due("RUSE 0, owed or not", x.cut(0, 50, 50, 0, 999), 7);
    }

    private static void plays(ClawBoxes x, int cell, int belief, int coins, int[] want) {
        for (int what = 0; what < 4; what++) {
            due("player(" + cell + ", " + belief + ", " + coins + ", " + what + ")", x.player(cell, belief, coins, what), want[what]);
        }
    }

    private static void player() {
        ClawBoxes x = ruled("grip 30;slip 10;");
        plays(x, 0, 1, 99, new int[] {1, 0, 0, 0});
        plays(x, 0, 2, 99, new int[] {1, 0, 0, 0});
        plays(x, 0, 3, 99, new int[] {2, 0, 0, 0});
        plays(x, 0, 99, 99, new int[] {50, 0, 0, 0});
        plays(x, 0, 99, 49, new int[] {49, 0, 1, 0});
        plays(x, 0, 99, 50, new int[] {50, 0, 0, 0});
        plays(x, 0, 99, 0, new int[] {0, 0, 99, 0});
        plays(x, 0, 1, 0, new int[] {0, 0, 1, 0});
        plays(x, 63, 5, 99, new int[] {3, 0, 0, 0});
        x.lay(62, 1, 0, 0);
        plays(x, 62, 94, 1, new int[] {1, 0, 99, 1});
        plays(x, 62, 95, 1, new int[] {1, 0, 99, 1});
        plays(x, 62, 93, 1, new int[] {1, 0, 98, 1});
        plays(x, 62, 99, 2, new int[] {2, 0, 97, 1});
        plays(x, 62, 1, 99, new int[] {4, 0, 0, 1});
        x.lay(9, 30, 0, 0);
        plays(x, 9, 98, 1, new int[] {1, 1, 99, 0});
        plays(x, 9, 99, 99, new int[] {99, 99, 99, 0});
        plays(x, 9, 1, 99, new int[] {99, 99, 99, 0});
        plays(x, 9, 1, 97, new int[] {97, 97, 98, 0});
        x.lay(17, 21, 0, 0);
        plays(x, 17, 4, 99, new int[] {4, 1, 0, 0});
        x.lay(33, 31, 0, 0);
        plays(x, 33, 4, 99, new int[] {2, 0, 0, 0});
        x.wire(3, true);
        plays(x, 33, 5, 99, new int[] {3, 0, 0, 0});
        due("on a copy", x.count(4), 0);
        due("on a copy", x.count(1), 4);
        ClawBoxes y = ruled("grip 9 if coins=50;lots 7;");
        y.set(1, 10);
        y.lay(0, 9, 0, 0);
        plays(y, 0, 9, 99, new int[] {8, 0, 0, 1});
        due("no DRAW", y.count(13), 1);
    }

    private static void fair() {
        ClawBoxes x = new ClawBoxes();
        due("0: the first FORM", x.fair(0), 1008);
        due("1", x.fair(1), NONE);
        due("64", x.fair(64), NONE);
        int[] steps = {0, 1, 2, 3, 4};
        int[] spare = {7, 5, 3, 1, 0};
        for (int i : steps) {
            ClawBoxes y = new ClawBoxes();
            y.lay(62, 90 - spare[i], 0, 0);
            due("slip " + (8 - 2 * i) + " at 9 steps", y.fair(1), 9000 + 8 - 2 * i);
        }
        ClawBoxes z = new ClawBoxes();
        z.lay(62, 91, 0, 0);
        due("91", z.fair(1), NONE);
        z.lay(55, 3, 0, 0);
        due("10 less 7", z.fair(1), 1008);
        z.key(1);
        z.lay(55, 4, 0, 0);
        due("20 ahead of a lesser slip", z.fair(1), 2008);
        for (int i = 3; i < 24; i++) {
            z.lay(i, 1, 0, 0);
        }
        due("23 that lie, of these 22 not too heavy", z.fair(22), 2008);
        due("not 23", z.fair(23), NONE);
        due("24", z.fair(24), NONE);
        ClawBoxes w = new ClawBoxes();
        w.lay(0, 5, 1, 0);
        w.lay(1, 5, 1, 0);
        due("each by itself: 10 less 0, 2 times", w.fair(2), 3008);
        w.set(0, 0);
        due("one in reach", w.fair(2), NONE);
        w.wire(1, true);
        due("WIRED", w.fair(1), NONE);
        refused(WRONG, "65", () -> w.fair(65));
        due("nothing changed", w.count(1), 2);
    }

    private static void images() {
        ClawBoxes x = new ClawBoxes();
        due("none", x.restore(), -1);
        due("1", x.image(), 1);
        due("2", x.image(), 2);
        due("3", x.image(), 3);
        x.seed(9);
        due("a 4th", x.image(), -1);
        due("3 still", x.count(11), 3);
        due("2 left", x.restore(), 2);
        due("the third was kept", x.count(13), 1);
        due("room again", x.image(), 3);
        due("2 left", x.restore(), 2);
        due("1 left", x.restore(), 1);
        due("0 left", x.restore(), 0);
        x.seed(7);
        due("none", x.restore(), -1);
        due("nothing changed", x.count(13), 7);
        due("0", x.count(11), 0);
    }

    private static void restored() {
        ClawBoxes x = ruled("grip 30;slip 10;");
        text(x, "grip 5;", false);
        x.image();
        for (int i = 0; i < 24; i++) {
            x.lay(i % 3, 1, 0, i);
        }
        x.attempt(2);
        x.key(0);
        x.wire(1, true);
        x.image();
        x.refill();
        x.hole(40);
        x.set(0, 1);
        x.set(1, 2);
        x.set(2, 3);
        x.seed(4);
        x.force(1);
        x.attempt(0);
        x.attempt(0);
        due("1 left", x.restore(), 1);
        int[] now = {24, 22, 1, 1, 1, 1, 1, 23, 2, 0, 0, 1, 0, 1};
        for (int what = 0; what < now.length; what++) {
            due("count(" + what + ")", x.count(what), now[what]);
        }
        int[] first = {2, 5, NONE, 0, 1, 1, 1, 0, 0, 1};
        for (int what = 0; what < first.length; what++) {
            due("record(0, " + what + ")", x.record(0, what), first[what]);
        }
        refused(NO_SUCH, "one TRY alone", () -> x.record(1, 0));
        due("TAKEN", x.thing(0, 0), -2);
        due("IN", x.thing(23, 0), NONE);
        due("WIRED", x.thing(1, 5), 1);
        due("LEVEL", x.thing(3, 1), 0);
        due("top", x.top(0, false), 21);
        due("HOLE", x.hole(63), 63);
        due("TIME", x.set(0, 14), 14);
        due("PRICE", x.set(1, 1), 1);
        due("hour", x.set(2, 0), 0);
        due("in force", x.force(0), 0);
        due("0 left", x.restore(), 0);
        due("THINGS told since are gone", x.count(0), 0);
        refused(NO_SUCH, "gone", () -> x.thing(0, 0));
        due("no HEAP", x.top(0, true), 0);
        due("none in force then: all is as it was", x.force(NONE), 0);
        due("a new THING", x.lay(0, 1, 0, 0), 0);
        due("not WIRED", x.thing(0, 5), 0);
        due("at LEVEL 0", x.thing(0, 1), 0);
        due("REFILL knows its CELL", x.refill(), 0);
    }

    private static void count() {
        ClawBoxes x = new ClawBoxes();
        int[] none = {-1, -2, 14, 15, 100, Integer.MIN_VALUE, Integer.MAX_VALUE};
        for (int what : none) {
            due("count(" + what + ")", x.count(what), NONE);
        }
        for (int what = 0; what < 14; what++) {
            due("a new object, " + what, x.count(what), what == 5 || what == 13 ? 1 : 0);
        }
    }
}
