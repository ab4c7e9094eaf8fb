import com.sun.management.ThreadMXBean;
import java.lang.management.ManagementFactory;

/**
 * What a run of 512 calls makes stays small: all of it lives in one room of some 600,000 objects and 7.3 million fields and
 * elements. A byte at least for each of these, so fewer bytes than that are fewer of both.
 */
public final class RoomTest {
    private static final Due due = new Due("RoomTest");
    private static final int CALLS = 512, MOST_BYTES = 600000;
    private static final ThreadMXBean bean = (ThreadMXBean) ManagementFactory.getThreadMXBean();

    /** One call, the i-th of a run. */
    private interface Step {
        int on(TwoBells x, int i);
    }

    private static int used = 0;

    public static void main(String[] args) {
        due.holds("what is made can be counted", bean.isThreadAllocatedMemorySupported());
        made("turns", (x, i) -> x.turns(i % 6, i % 6));
        made("short texts", (x, i) -> i % 3 == 2 ? x.back() : i % 3 == 1 ? x.text() : x.feed(0x636f6d65, 0x20612020, 0x20202020));
        made("long texts", (x, i) -> i % 10 == 9 ? x.back() : i % 10 == 8 ? x.text() : feeds(x, i % 10));
        made("thieves, gone back on", (x, i) -> i % 6 == 5 ? x.back() : x.thief(i % 6, i % 10));
        made("nights", (x, i) -> x.nights(60));
        made("check", (x, i) -> i % 3 == 2 ? x.check(30) : x.tell(0));
        made("wiring", (x, i) -> x.wiring());
        made("worst", (x, i) -> x.worst(i % 3));
        made("choice", (x, i) -> x.choice(i % 6));
        made("fewest", (x, i) -> x.fewest());
        made("keep, back", (x, i) -> i % 2 == 0 ? x.keep() : x.back());
        made("sheets", (x, i) -> i % 2 == 0 ? x.sheet(i % 4, 0, 24) : x.pour(i % 4));
        made("slots", (x, i) -> x.lay(i % 5, 1 + i % 3, 0));
        due.holds("answers were used", used != 1);
        due.end();
    }

    /** In eight calls 96 bytes: come a+a+a .. */
    private static int feeds(TwoBells x, int part) {
        return part == 0 ? x.feed(0x636f6d65, 0x20612b61, 0x2b612b61) : x.feed(0x2b612b61, 0x2b612b61, 0x2b612b61);
    }

    private static void made(String name, Step step) {
        long bytes = 0;
        // The first time round the machine makes things of its own.
        for (int round = 0; round < 2; round++) {
            long before = bean.getCurrentThreadAllocatedBytes();
            TwoBells x = fullTown();
            for (int i = 0; i < CALLS; i++) {
                used ^= step.on(x, i);
            }
            bytes = bean.getCurrentThreadAllocatedBytes() - before;
        }
        due.holds("bytes made by " + name + ": " + bytes, bytes < MOST_BYTES);
    }

    private static TwoBells fullTown() {
        TwoBells x = Due.town(10);
        for (int i = 0; i < 12; i++) {
            x.door(i % 10, 80 * i);
        }
        for (int i = 0; i < 5; i++) {
            x.thief(i, i);
        }
        x.sheet(0, 0, 24);
        x.wiring();
        x.keep();
        x.thief(5, 5);
        return x;
    }
}
