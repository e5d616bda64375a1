import com.sun.management.ThreadMXBean;
import java.lang.management.ManagementFactory;
import java.util.Arrays;

/** All calls of a run live in one room: what a call makes is counted in bytes. */
public final class RoomTest {
    private static final ThreadMXBean THREADS = (ThreadMXBean) ManagementFactory.getThreadMXBean();
    private static final int TIMES = 50;
    private static final int ROUNDS = 5;
    // The largest town: a text, two arrays and nine parts, of 40 bytes at most each.
    private static final int BYTES_OF_TOWN = 12 * 40;
    private static final int BYTES_OF_KINDS = 3 * 40;
    private static final int BYTES_OF_OBJECT = 4000;
    private static final String TEXT = "j,g36,s52,l96,g10,s26;721;910;523;833";

    private record Line(int bytes, String name, int... args) {
    }

    private static final Line[] LINES = {
        new Line(BYTES_OF_TOWN, "town", 0, 0, 0, 37), new Line(BYTES_OF_KINDS, "kinds", 2, 1, 2, 0, 12),
        new Line(0, "ofGate", 2, 1), new Line(0, "ofStory", 2, 4), new Line(0, "harmless", 2), new Line(0, "rate", 1, 5),
        new Line(0, "fresh", 0, 3), new Line(0, "duty", 2, 1, 2, 7), new Line(0, "passages", 1, 2, 0, 12, 0),
        new Line(0, "passages", 1, 2, 0, 12, 24), new Line(0, "least", 1, 7, 2), new Line(0, "free", 3),
        new Line(0, "worth", 2, 1, 7), new Line(0, "reading", 4, 5), new Line(0, "back", 0),
        new Line(0, "sizes", 3, 1, 2, 0, 12), new Line(0, "persons", 3, 1, 2, 0, 12), new Line(0, "limits", 1, 2, 0, 12),
        new Line(0, "odds", 3, 6, 40, 1), new Line(0, "sheet", 2, 1, 60), new Line(0, "lose", 2),
        new Line(0, "put", 1, 0, 0), new Line(0, "cell", 1, 35, 2), new Line(0, "copy", 1, 3, 1, 0, 0),
        new Line(0, "tell", 2), new Line(0, "knock", 2), new Line(0, "as", 2, 2), new Line(0, "trace"),
        new Line(0, "fault"), new Line(0, "many", 3), new Line(0, "as", 0, 2), new Line(0, "put", 9, 9, 9)};

    private RoomTest() {
    }

    public static void main(String[] args) {
        Check.due("bytes are counted", THREADS.isThreadAllocatedMemoryEnabled() ? 1 : 0, 1);
        for (Line line : LINES) {
            long bytes = leastOf(line);
            String call = line.name + Arrays.toString(line.args);
            Check.due(call + " makes " + bytes + " bytes of " + line.bytes, bytes <= line.bytes ? 1 : 0, 1);
        }
        long made = bytesOfNew();
        Check.due("a new object takes " + made + " bytes of " + BYTES_OF_OBJECT, made <= BYTES_OF_OBJECT ? 1 : 0, 1);
        Check.end();
    }

    /** Of several rounds the least: a first round may make what is of the machine and not of the call. */
    private static long leastOf(Line line) {
        long least = Long.MAX_VALUE;
        for (int round = 0; round < ROUNDS; round++) {
            GossipGate x = fullTown();
            long before = bytesSoFar();
            for (int time = 0; time < TIMES; time++) {
                Calls.on(x, line.name, line.args);
            }
            least = Math.min(least, (bytesSoFar() - before) / TIMES);
        }
        return least;
    }

    private static long bytesOfNew() {
        long least = Long.MAX_VALUE;
        for (int round = 0; round < ROUNDS; round++) {
            long before = bytesSoFar();
            new GossipGate().many(0);
            least = Math.min(least, bytesSoFar() - before);
        }
        return least;
    }

    private static long bytesSoFar() {
        return THREADS.getThreadAllocatedBytes(Thread.currentThread().getId());
    }

    /** With 12 passages on sheet 1 that can be: three of each story, all on day 6. */
    private static GossipGate fullTown() {
        GossipGate x = Check.in(TEXT);
        int[] cells = new int[36];
        for (int p = 0; p < 12; p++) {
            cells[3 * p] = p / 3;
            cells[3 * p + 1] = p % 5;
            cells[3 * p + 2] = 6;
        }
        Check.lay(x, 1, 2, cells);
        Check.due("passages that can be", x.passages(1, 2, 0, 12, 1), GossipGate.NONE);
        return x;
    }
}
