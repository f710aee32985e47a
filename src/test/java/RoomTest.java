import com.sun.management.ThreadMXBean;
import java.lang.management.ManagementFactory;

/** The room that a run may take: rows are made with the object, and no call makes anything. */
final class RoomTest {
    // A new object for each of 512 calls must fit into 7.3 million fields and elements.
    private static final long MOST_BYTES_OF_ONE = 40000;
    private static final long MOST_BYTES_OF_CALLS = 2000;

    private static final ThreadMXBean THREADS = (ThreadMXBean) ManagementFactory.getThreadMXBean();

    private static long allocated() {
        return THREADS.getThreadAllocatedBytes(Thread.currentThread().getId());
    }

    public static void main(String[] args) {
        byte[] text = "weigh skill 3;give mean;life 1;like 9;  ".getBytes();
        // Twice, so that what the machine itself loads and makes is not counted.
        measured(text, false);
        measured(text, true);
        Due.finish();
    }

    private static void measured(byte[] text, boolean counts) {
        long before = allocated();
        SalvageCourt x = new SalvageCourt();
        long made = allocated();
        calls(x, text);
        long after = allocated();
        if (counts) {
            Due.due("a new object takes " + (made - before), made - before <= MOST_BYTES_OF_ONE, true);
            Due.due("calls take " + (after - made), after - made <= MOST_BYTES_OF_CALLS, true);
        }
    }

    private static void calls(SalvageCourt x, byte[] text) {
        for (int i = 0; i < 25; i++) {
            x.clock(i);
            x.trust(i % 6, i % 10);
            x.says(i % 6, i % 16, (i + 1) % 16, i, i + 9);
            x.believed(i);
            x.spans(0, i % 16, 0);
            x.quarrel();
            x.quarrels(0);
            x.value(i % 10, 1000 * i, i, i);
            x.earlier(11111 + i, i, i);
            x.overrule(i / 2, i);
            x.suit(11120, i);
            feedAll(x, text);
            x.law(i);
            x.sheet(8, 0x12345678L, 0, 0, 0);
            x.ship(100 + i, 0, i % 16, i, 20, 10);
            x.judge(i, i);
            x.share(0, 2);
            x.hand(0, 0);
        }
    }

    private static void feedAll(SalvageCourt x, byte[] text) {
        for (int at = 0; at < text.length; at += 20) {
            x.feed(Due.word(text, at), Due.word(text, at + 4), Due.word(text, at + 8),
                    Due.word(text, at + 12), Due.word(text, at + 16));
        }
    }
}
