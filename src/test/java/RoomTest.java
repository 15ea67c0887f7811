import com.sun.management.ThreadMXBean;
import java.lang.management.ManagementFactory;

/** The room of a run: an object's 512 calls, dear ones among them, make next to nothing. */
public final class RoomTest {
    private static final int CALLS = 512;
    private static final long MOST_BYTES = 64 * CALLS + 20_000;

    public static void main(String[] args) {
        ThreadMXBean threads = (ThreadMXBean) ManagementFactory.getThreadMXBean();
        mixedCalls(new TagField());
        long before = threads.getCurrentThreadAllocatedBytes();
        mixedCalls(new TagField());
        long made = threads.getCurrentThreadAllocatedBytes() - before;
        Desk.due("more than " + MOST_BYTES + " bytes made (" + made + ")", made > MOST_BYTES, false);
        Desk.end();
    }

    /** Sixteen tags, refused ones, and rounds over all of them again and again. */
    private static void mixedCalls(TagField x) {
        for (int i = 0; i < 32; i++) {
            x.tag(10, i * 0x01010101, i * 0x01010101, i << 16);
        }
        for (int i = 32; i < CALLS; i += 8) {
            x.field(false);
            x.field(true);
            x.round();
            x.bits(Desk.WAKE, 7);
            x.go();
            x.octet(0x93);
            x.octet(0x20);
            x.go();
        }
    }
}
