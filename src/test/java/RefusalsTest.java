import java.util.ArrayList;
import java.util.List;

/** Every exception that the document names: the values just inside pass, those outside throw it and change nothing. */
public final class RefusalsTest extends Checks {
    private interface Use {
        void of(ClawBoxes x);
    }

    private interface With {
        void of(ClawBoxes x, int v);
    }

    /** A box in which there is something of everything, and room for more of it. */
    private static ClawBoxes busy() {
        ClawBoxes x = new ClawBoxes();
        text(x, "grip 30;slip 10;", false);
        text(x, "grip 20+lot;lots 11;", false);
        text(x, "can=1;", true);
        text(x, "since<9;", true);
        x.hand(0_123456701);
        x.hand(0_000010000);
        x.hole(56);
        x.lay(9, 20, 0, 50);
        x.lay(9, 5, 3, 7);
        x.lay(62, 1, 0, 60);
        x.lay(40, 7, 1, 2);
        x.wire(3, true);
        x.force(1);
        x.seed(77);
        x.set(0, 13);
        x.set(1, 3);
        x.image();
        x.set(2, 5);
        x.attempt(9);
        x.play(0, 62);
        x.attempt(40);
        x.key(2);
        text(x, "grip 1000;", false);
        x.feed(1, 2, 3, 4, 5);
        return x;
    }

    /** All that can be seen of a box; what is seen only by a change comes last. */
    private static List<Integer> seen(ClawBoxes x) {
        List<Integer> all = new ArrayList<>();
        seenByAsking(x, all);
        for (int what = 0; what < 3; what++) {
            all.add(x.set(what, 0));
        }
        all.add(x.hole(1));
        all.add(x.force(NONE));
        all.add(x.restore());
        seenByAsking(x, all);
        all.add(x.program(x.count(12), false));
        all.add(x.fault());
        return all;
    }

    private static void seenByAsking(ClawBoxes x, List<Integer> all) {
        for (int what = 0; what < 14; what++) {
            all.add(x.count(what));
        }
        all.add(x.fault());
        for (int thing = 0; thing < x.count(0); thing++) {
            for (int what = 0; what < 6; what++) {
                all.add(x.thing(thing, what));
            }
        }
        for (int k = 0; k < x.count(4); k++) {
            for (int what = 0; what < 10; what++) {
                all.add(x.record(k, what));
            }
        }
        for (int what = 0; what < 3; what++) {
            all.add(x.tells(what, 7));
        }
    }

    private static void refuses(Class<?> kind, String what, Use use) {
        ClawBoxes x = busy();
        refused(kind, what, () -> use.of(x));
        due(what + " changed nothing: 1", seen(x).equals(seen(busy())) ? 1 : 0, 1);
    }

    private static void passes(String what, Use use) {
        String threw = "";
        try {
            use.of(busy());
        } catch (RuntimeException e) {
            threw = " threw " + e;
        }
        due(what + threw + ": 0", threw.length(), 0);
    }

    /** One parameter: least to most pass, all else is refused. */
    private static void range(Class<?> kind, String what, int least, int most, With use) {
        passes(what + " " + least, x -> use.of(x, least));
        passes(what + " " + most, x -> use.of(x, most));
        int[] outside = {least - 1, most + 1, Integer.MIN_VALUE, Integer.MAX_VALUE};
        for (int v : outside) {
            refuses(kind, what + " " + v, x -> use.of(x, v));
        }
    }

    public static void main(String[] args) {
        about("no such CELL");
        cells();
        about("no such THING");
        range(NO_SUCH, "wire", 0, 3, (x, v) -> x.wire(v, true));
        range(NO_SUCH, "key", 0, 3, (x, v) -> x.key(v));
        range(NO_SUCH, "thing", 0, 3, (x, v) -> x.thing(v, 0));
        about("no such TRY");
        range(NO_SUCH, "record", 0, 2, (x, v) -> x.record(v, 0));
        about("no such HAND");
        hands();
        about("no such PROGRAM");
        programs();
        about("no such LAW");
        range(NO_SUCH, "broken", 0, 1, (x, v) -> x.broken(v));
        about("IllegalArgumentException");
        values();
        about("another what");
        whats();
        about("a new object has none of them");
        newObject();
        about("a refused call is refused when all is full, too");
        full();
        end();
    }

    private static void cells() {
        range(CELL, "lay", 0, 63, (x, v) -> x.lay(v, 1, 0, 0));
        range(CELL, "top", 0, 63, (x, v) -> x.top(v, false));
        range(CELL, "height", 0, 63, (x, v) -> x.top(v, true));
        range(CELL, "hole", 0, 63, (x, v) -> x.hole(v));
        range(CELL, "attempt", 0, 63, (x, v) -> x.attempt(v));
        range(CELL, "play", 0, 63, (x, v) -> x.play(1, v));
        range(CELL, "odds", 0, 63, (x, v) -> x.odds(0, v, 0));
        range(CELL, "when", 0, 63, (x, v) -> x.when(v, 0));
        range(CELL, "guess", 0, 63, (x, v) -> x.guess(v));
        range(CELL, "worth, the others'", 0, 63, (x, v) -> x.worth(v, 0, 1));
        range(CELL, "worth, yours", 0, 63, (x, v) -> x.worth(0, v, 1));
        range(CELL, "bide, the others'", 0, 63, (x, v) -> x.bide(v, 0));
        range(CELL, "bide, yours", 0, 63, (x, v) -> x.bide(0, v));
        range(CELL, "settle", 0, 63, (x, v) -> x.settle(0, v, 0));
        range(CELL, "back", 0, 63, (x, v) -> x.back(0, v));
        range(CELL, "player", 0, 63, (x, v) -> x.player(v, 1, 1, 0));
    }

    private static void hands() {
        range(NO_SUCH, "play", 0, 1, (x, v) -> x.play(v, 0));
        range(NO_SUCH, "odds", 0, 1, (x, v) -> x.odds(v, 0, 0));
        range(NO_SUCH, "weights", 0, 1, (x, v) -> x.weights(v));
        range(NO_SUCH, "settle", 0, 1, (x, v) -> x.settle(v, 0, 0));
        range(NO_SUCH, "back", 0, 1, (x, v) -> x.back(v, 0));
        range(NO_SUCH, "cut", 0, 1, (x, v) -> x.cut(v, 0, 0, 0, 0));
    }

    private static void programs() {
        range(WRONG, "force (NONE: none)", NONE, 1, (x, v) -> x.force(v));
        range(WRONG, "when", 0, 1, (x, v) -> x.when(9, v));
        range(WRONG, "strange", 0, 1, (x, v) -> x.strange(v));
    }

    private static void values() {
        refuses(WRONG, "lay at the HOLE", x -> x.lay(56, 1, 0, 0));
        passes("lay where the HOLE was", x -> x.lay(63, 1, 0, 0));
        range(WRONG, "lay, WEIGHT", 1, 99, (x, v) -> x.lay(0, v, 0, 0));
        range(WRONG, "lay, LOCK", 0, 7, (x, v) -> x.lay(0, 1, v, 0));
        range(WRONG, "lay, VALUE", 0, 999, (x, v) -> x.lay(0, 1, 0, v));
        refuses(WRONG, "hole where a THING lies", x -> x.hole(9));
        passes("hole where it is", x -> x.hole(56));
        passes("hole where a THING was TAKEN", x -> x.hole(62));
        range(WRONG, "set, TIME", 0, 14, (x, v) -> x.set(0, v));
        range(WRONG, "set, PRICE", 0, 99, (x, v) -> x.set(1, v));
        range(WRONG, "set, hour", 0, 23, (x, v) -> x.set(2, v));
        range(WRONG, "program, n", 0, 20, (x, v) -> x.program(v, false));
        range(WRONG, "program, n of a LAW", 0, 20, (x, v) -> x.program(v, true));
        range(WRONG, "tells, LOT", 0, 35, (x, v) -> x.tells(0, v));
        range(WRONG, "tells, LOT of lots", 0, 35, (x, v) -> x.tells(2, v));
        range(WRONG, "hand", 1, 134217727, (x, v) -> x.hand(v));
        range(WRONG, "odds, LOT", 0, 35, (x, v) -> x.odds(0, 0, v));
        range(WRONG, "worth, k", 1, 20, (x, v) -> x.worth(0, 0, v));
        range(WRONG, "settle, LEAVE", 0, 9999, (x, v) -> x.settle(0, 9, v));
        range(WRONG, "settle, LEAVE, no THING there", 0, 9999, (x, v) -> x.settle(0, 0, v));
        range(WRONG, "settle, LEAVE, never hits", 0, 9999, (x, v) -> x.settle(1, 8, v));
        range(WRONG, "cut, the aim", 0, 99, (x, v) -> x.cut(0, v, 0, 0, 0));
        range(WRONG, "cut, the STRING", 0, 99, (x, v) -> x.cut(0, 0, v, 0, 0));
        range(WRONG, "cut, the RUSE", 0, 9, (x, v) -> x.cut(0, 0, 0, v, 0));
        range(WRONG, "cut, owed", 0, 999, (x, v) -> x.cut(0, 0, 0, 0, v));
        range(WRONG, "player, BELIEF", 1, 99, (x, v) -> x.player(0, v, 0, 0));
        range(WRONG, "player, coins", 0, 99, (x, v) -> x.player(0, 1, v, 0));
        range(WRONG, "fair", 0, 64, (x, v) -> x.fair(v));
    }

    private static void whats() {
        range(WRONG, "thing", 0, 5, (x, v) -> x.thing(0, v));
        range(WRONG, "set", 0, 2, (x, v) -> x.set(v, 0));
        range(WRONG, "tells", 0, 2, (x, v) -> x.tells(v, 0));
        range(WRONG, "record", 0, 9, (x, v) -> x.record(0, v));
        range(WRONG, "player", 0, 3, (x, v) -> x.player(0, 1, 1, v));
        int[] others = {-1, 14, Integer.MIN_VALUE, Integer.MAX_VALUE};
        for (int v : others) {
            due("count(" + v + ") throws nothing", busy().count(v), NONE);
        }
    }

    private static void newObject() {
        ClawBoxes x = new ClawBoxes();
        refused(NO_SUCH, "wire", () -> x.wire(0, true));
        refused(NO_SUCH, "key", () -> x.key(0));
        refused(NO_SUCH, "thing", () -> x.thing(0, 0));
        refused(NO_SUCH, "record", () -> x.record(0, 0));
        refused(NO_SUCH, "play", () -> x.play(0, 0));
        refused(NO_SUCH, "odds", () -> x.odds(0, 0, 0));
        refused(NO_SUCH, "weights", () -> x.weights(0));
        refused(NO_SUCH, "settle", () -> x.settle(0, 0, 0));
        refused(NO_SUCH, "back", () -> x.back(0, 0));
        refused(NO_SUCH, "cut", () -> x.cut(0, 0, 0, 0, 0));
        refused(NO_SUCH, "broken", () -> x.broken(0));
        refused(WRONG, "force", () -> x.force(0));
        refused(WRONG, "when", () -> x.when(0, 0));
        refused(WRONG, "when by none", () -> x.when(0, NONE));
        refused(WRONG, "strange", () -> x.strange(0));
        refused(WRONG, "program", () -> x.program(1, false));
        refused(WRONG, "lay at 63", () -> x.lay(63, 1, 0, 0));
    }

    /** The last of each kind is there, the next is not. */
    private static void full() {
        ClawBoxes x = new ClawBoxes();
        for (int i = 0; i < 24; i++) {
            x.lay(i, 1, 0, 0);
        }
        for (int i = 0; i < 6; i++) {
            x.program(0, false);
            x.hand(1);
            text(x, "1=1;", true);
        }
        due("the last THING", x.thing(23, 0), 23);
        refused(NO_SUCH, "thing 24", () -> x.thing(24, 0));
        refused(NO_SUCH, "key 24", () -> x.key(24));
        refused(NO_SUCH, "wire 24", () -> x.wire(24, false));
        due("the last PROGRAM", x.force(5), NONE);
        refused(WRONG, "force 6", () -> x.force(6));
        refused(WRONG, "when 6", () -> x.when(0, 6));
        refused(WRONG, "strange 6", () -> x.strange(6));
        due("the last HAND", x.weights(5), 1);
        refused(NO_SUCH, "weights 6", () -> x.weights(6));
        refused(NO_SUCH, "play 6", () -> x.play(6, 0));
        due("the last LAW", x.broken(2), NONE);
        refused(NO_SUCH, "broken 3", () -> x.broken(3));
        refused(CELL, "lay 64", () -> x.lay(64, 1, 0, 0));
        refused(WRONG, "lay at the HOLE", () -> x.lay(63, 1, 0, 0));
        refused(WRONG, "hand 0", () -> x.hand(0));
        refused(WRONG, "program 1", () -> x.program(1, false));
        for (int i = 0; i < 200; i++) {
            x.attempt(63);
        }
        due("the last TRY", x.record(199, 4), 200);
        refused(NO_SUCH, "record 200", () -> x.record(200, 0));
        refused(CELL, "attempt 64", () -> x.attempt(64));
        refused(CELL, "play at 64", () -> x.play(0, 64));
        refused(NO_SUCH, "play 6", () -> x.play(6, 0));
    }
}
