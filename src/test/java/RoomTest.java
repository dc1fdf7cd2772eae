import com.sun.management.ThreadMXBean;
import java.lang.management.ManagementFactory;
import java.util.LinkedHashMap;
import java.util.Map;
import java.util.function.LongSupplier;

/** That an object is small, and that no call makes objects but those that are kept: all calls of one run live in one room. */
public final class RoomTest {
    private static final int NONE = DroppingBalls.NONE;
    /** Of a new object with all that there is room for in it. */
    private static final long MOST_BYTES = 16_384;

    /** Of searches there are 20 on an object, of both kinds together. */
    private static final int TIMES = 10;

    private static long answers;

    private RoomTest() {
    }

    public static void main(String[] args) {
        if (ManagementFactory.getThreadMXBean() instanceof ThreadMXBean threads && threads.isThreadAllocatedMemorySupported()) {
            threads.setThreadAllocatedMemoryEnabled(true);
            answers += threads.getCurrentThreadAllocatedBytes();
            callsMakeNothing(threads);
            anObjectIsSmall(threads);
        } else {
            System.out.println("this machine does not tell what is made: the room is not looked at");
        }
        Check.end();
    }

    private static void callsMakeNothing(ThreadMXBean threads) {
        for (Sample sample : new Sample[] {Sample.empty(), Sample.some().unsearched(), Sample.full().unsearched()}) {
            for (Map.Entry<String, LongSupplier> call : callsOf(sample.make()).entrySet()) {
                Check.due("bytes made by " + call.getKey() + " on " + sample.name(), bytesMadeBy(call.getValue(), threads), 0);
            }
        }
    }

    /** The least of some times, since the machine makes things of its own when a call is new to it. */
    private static long bytesMadeBy(LongSupplier call, ThreadMXBean threads) {
        long least = Long.MAX_VALUE;
        for (int i = 0; i < TIMES && least > 0; i++) {
            long ahead = threads.getCurrentThreadAllocatedBytes();
            answers += call.getAsLong();
            least = Math.min(least, threads.getCurrentThreadAllocatedBytes() - ahead);
        }
        return least;
    }

    private static Map<String, LongSupplier> callsOf(DroppingBalls x) {
        Map<String, LongSupplier> calls = new LinkedHashMap<>();
        calls.put("digest", x::digest);
        calls.put("fault", x::fault);
        calls.put("a clock that is none", x::clock);
        calls.put("told", () -> x.told(0, 12));
        calls.put("season", () -> x.season(0, 0, 70));
        calls.put("as", () -> x.as(0, 0));
        calls.put("workAs", () -> x.workAs(0, 0));
        calls.put("head", () -> x.head(0));
        calls.put("drops", () -> x.drops(0, 0, NONE, 0));
        calls.put("error", () -> x.error(0, 0, NONE, 0));
        calls.put("at", () -> x.at(0, 0, 0, 95, 3));
        calls.put("even", () -> x.even(0, 0, 1, 0));
        calls.put("mean", () -> x.mean(0, 0, 2, 0));
        calls.put("shows", () -> x.shows(0, 0, NONE, 0));
        calls.put("worst", () -> x.worst(0, 0));
        calls.put("better", () -> x.better(0, 1));
        calls.put("mark", () -> x.mark(0, 0, 0));
        calls.put("mended", () -> x.mended(0, 0, 0, 1, 96));
        calls.put("log", () -> x.log(0, NONE));
        calls.put("agrees", () -> x.agrees(0, 0, NONE));
        calls.put("which", () -> x.which(0, 0));
        calls.put("sought", () -> x.sought(0, 0, 1, 0, 0));
        calls.put("lost", () -> x.lost(0, 0, 0, 0));
        calls.put("span", () -> x.span(0, 0, NONE, NONE, 0));
        calls.put("record", () -> x.record(0, 0, 0, 9, 1));
        calls.put("image", x::image);
        calls.put("restore", x::restore);
        calls.put("count", () -> x.count(0));
        calls.put("letters", () -> x.letters('1'));
        calls.put("blank", x::blank);
        calls.put("a digest at last", x::digest);
        return calls;
    }

    private static void anObjectIsSmall(ThreadMXBean threads) {
        long least = bytesMadeBy(() -> filled().count(0), threads);
        Check.holds("bytes made by a full object: " + least, least <= MOST_BYTES);
        Check.holds("some were made, and calls answered " + answers, least > 0);
    }

    private static DroppingBalls filled() {
        DroppingBalls x = new DroppingBalls();
        for (int i = 0; i < 4; i++) {
            // The text 1x1h1=1x1;s0;m1.
            x.letters(0x7831_3d31_6831_7831L);
            x.letters(0x31_6d3b_3073_3b31L);
            answers += x.clock();
        }
        for (int i = 0; i < 8; i++) {
            answers += x.faulty(0, 0, 1, 0);
        }
        for (int i = 0; i < 10; i++) {
            answers += x.work(0, 0, NONE);
        }
        answers += x.image();
        return x;
    }
}
