import com.sun.management.ThreadMXBean;
import java.lang.management.ManagementFactory;

/** All calls of one run live in one room, and nothing leaves it: what the calls on a full box make is measured. */
public final class RoomTest extends Checks {
    private static final int CALLS = 100;
    /* The room has 7.3 million fields and elements, 4 bytes each at least: 512 calls stay below a tenth of it. */
    private static final long MOST_BYTES = 7_300_000L * 4 / 10 * CALLS / 512;

    private static ClawBoxes box;

    public static void main(String[] args) {
        about("the room: calls on a full box");
        measure("new ClawBoxes()", 1, ClawBoxes::new);
        measure("attempt", CALLS / 2, () -> {
            box.refill();
            box.attempt(9);
        });
        measure("play", CALLS / 2, () -> {
            box.refill();
            box.play(0, 9);
        });
        measure("feed, a faulty program", CALLS / 2, () -> {
            box.feed(0x67726970, 0x20282828, 0x28282828, 0, 0);
            box.program(16, false);
        });
        measure("a program too many", CALLS, () -> box.program(0, false));
        measure("tells", CALLS, () -> box.tells(0, 35));
        measure("can", CALLS, () -> box.can(true));
        measure("odds", CALLS, () -> box.odds(0, 9, 35));
        measure("when", CALLS, () -> box.when(9, 5));
        measure("fitting", CALLS, () -> box.fitting());
        measure("strange", CALLS, () -> box.strange(5));
        measure("guess", CALLS, () -> box.guess(9));
        measure("worth", CALLS, () -> box.worth(9, 10, 20));
        measure("bide", CALLS, () -> box.bide(9, 10));
        measure("settle", CALLS, () -> box.settle(0, 9, 9999));
        measure("broken", CALLS, () -> box.broken(2));
        measure("cut", CALLS, () -> box.cut(0, 50, 50, 9, 999));
        measure("player", CALLS, () -> box.player(9, 99, 99, 0));
        measure("fair", CALLS, () -> box.fair(64));
        measure("image and restore", CALLS / 2, () -> {
            box.image();
            box.restore();
        });
        measure("record", CALLS, () -> box.record(199, 9));
        measure("thing", CALLS, () -> box.thing(23, 1));
        measure("count", CALLS, () -> box.count(1));
        end();
    }

    private static void measure(String what, int times, Call call) {
        box = fullBox();
        ThreadMXBean thread = (ThreadMXBean) ManagementFactory.getThreadMXBean();
        long before = thread.getCurrentThreadAllocatedBytes();
        for (int i = 0; i < times; i++) {
            call.make();
        }
        long made = thread.getCurrentThreadAllocatedBytes() - before;
        due(what + " made " + made + " bytes, at most " + MOST_BYTES + ": 1", made <= MOST_BYTES ? 1 : 0, 1);
    }

    /** As many things, programs, laws, hands and tries as there may be, and texts as long as they may be. */
    private static ClawBoxes fullBox() {
        ClawBoxes x = new ClawBoxes();
        for (int i = 0; i < 24; i++) {
            x.lay(8 + i % 12, 1 + i, i % 3, i);
        }
        for (int p = 0; p < 6; p++) {
            text(x, "grip lot+tries*since/2 ;".repeat(11) + "lots 36;" + " ".repeat(28), false);
        }
        for (int p = 0; p < 3; p++) {
            text(x, "tries>0" + " and can<2".repeat(29) + "; ", true);
        }
        for (int h = 0; h < 6; h++) {
            x.hand(134217727);
        }
        x.force(5);
        for (int k = 0; k < 200; k++) {
            x.attempt(8 + k % 12);
        }
        boolean full = x.count(0) == 24 && x.count(8) == 6 && x.count(9) == 3 && x.count(10) == 6 && x.attempt(9) == -1;
        due("the box is full: 1", full ? 1 : 0, 1);
        return x;
    }
}
