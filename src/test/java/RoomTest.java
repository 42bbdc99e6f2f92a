import com.sun.management.ThreadMXBean;
import java.lang.management.ManagementFactory;

/** All calls of one run live in one room and nothing is thrown away there: what a full box's calls make is measured. */
public final class RoomTest extends Checks {
    private static final int CALLS = 512;
    /* The room has 7.3 million fields and elements, 4 bytes each at least: a run stays below a tenth of it. */
    private static final long MOST_BYTES = 7_300_000L * 4 / 10;

    private static ClawBoxes box;

    public static void main(String[] args) {
        about("the room: 512 calls on a full box");
        measure("new ClawBoxes()", 1, ClawBoxes::new);
        box = fullBox();
        measure("attempt", 200, () -> box.attempt(9));
        measure("play", () -> box.play(0, 9));
        measure("program", () -> box.program(0, false));
        measure("fault", () -> box.fault());
        measure("tells", () -> box.tells(0, 35));
        measure("can", () -> box.can(true));
        measure("odds", () -> box.odds(0, 9, 35));
        measure("when", () -> box.when(9, 5));
        measure("fitting", () -> box.fitting());
        measure("strange", () -> box.strange(5));
        measure("guess", () -> box.guess(9));
        measure("worth", () -> box.worth(9, 10, 20));
        measure("bide", () -> box.bide(9, 10));
        measure("settle", () -> box.settle(0, 9, 9999));
        measure("back", () -> box.back(0, 9));
        measure("broken", () -> box.broken(2));
        measure("cut", () -> box.cut(0, 50, 50, 9, 999));
        measure("player", () -> box.player(9, 99, 99, 0));
        measure("fair", () -> box.fair(64));
        measure("image and restore", () -> {
            box.image();
            box.restore();
        });
        measure("record", () -> box.record(199, 9));
        measure("thing", () -> box.thing(23, 1));
        measure("top", () -> box.top(9, true));
        measure("count", () -> box.count(1));
        measure("refill, attempt", () -> {
            box.refill();
            box.attempt(10);
        });
        measure("feed and a faulty text", () -> {
            box.feed(0x67726970, 0x20282828, 0x28282828, 0, 0);
            box.program(16, false);
        });
        end();
    }

    private static void measure(String what, Call call) {
        measure(what, CALLS, call);
    }

    private static void measure(String what, int times, Call call) {
        ThreadMXBean thread = (ThreadMXBean) ManagementFactory.getThreadMXBean();
        long before = thread.getCurrentThreadAllocatedBytes();
        for (int i = 0; i < times; i++) {
            call.make();
        }
        long made = thread.getCurrentThreadAllocatedBytes() - before;
        due(what + " made " + made + " bytes, at most " + MOST_BYTES + ": 1", made <= MOST_BYTES ? 1 : 0, 1);
    }

    /** As many things, programs, laws, hands and images as there may be, and texts as long as they may be. */
    private static ClawBoxes fullBox() {
        ClawBoxes x = new ClawBoxes();
        for (int i = 0; i < 24; i++) {
            x.lay(8 + i % 12, 1 + i, i % 3, i);
        }
        String clause = "grip lot+tries*since/2 ;";
        for (int p = 0; p < 6; p++) {
            text(x, clause.repeat(11) + "lots 36;" + " ".repeat(28), false);
        }
        for (int p = 0; p < 3; p++) {
            text(x, "tries>0" + " and can<2".repeat(29) + "; ", true);
        }
        for (int h = 0; h < 6; h++) {
            x.hand(134217727);
        }
        x.force(5);
        x.image();
        x.image();
        due("the box is full: 1", x.count(0) == 24 && x.count(8) == 6 && x.count(9) == 3 && x.count(10) == 6 ? 1 : 0, 1);
        return x;
    }
}
