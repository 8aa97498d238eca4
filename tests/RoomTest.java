import com.sun.management.ThreadMXBean;
import java.lang.management.ManagementFactory;

/** A run of the dearest calls stays far below the one room that all of them have (LANGUAGE.md, 12). */
public final class RoomTest {
    private static final long BYTES_MOST = 2_000_000;

    public static void main(String[] args) {
        dearest(false);
        long bytes = dearest(true);
        Check.due("512 calls take " + bytes + " bytes", bytes < BYTES_MOST);
        Check.end("RoomTest");
    }

    /** All sizes from the least to the greatest, so that rows are made as often as can be; sheets, texts, and all searches. */
    private static long dearest(boolean counts) {
        ThreadMXBean threads = (ThreadMXBean) ManagementFactory.getThreadMXBean();
        long before = counts ? threads.getCurrentThreadAllocatedBytes() : 0;
        NeverLike x = new NeverLike();
        int calls = 0;
        for (int i = 0; i < 5; i++) {
            String text = "may 1;fee from*99+to*7-from*to*31;joy 1+2+3;";
            for (int k = 0; k < text.length(); k++) {
                x.feed(text.charAt(k));
            }
            x.text();
            calls += text.length() + 1;
        }
        x.force(5);
        for (int c = 2; c <= 5; c++) {
            for (int h = 1; h <= 6; h++) {
                x.build(h, c);
                x.cheapest(0);
                calls += 2;
            }
        }
        x.build(6, 4);
        for (; calls < 500; calls += 6) {
            x.set(0, 0, calls % 4);
            x.sheet(0, 2, 40);
            x.worth(0);
            x.night(0, 2);
            x.come(3);
            x.first(4095, 0);
        }
        return counts ? threads.getCurrentThreadAllocatedBytes() - before : 0;
    }
}
