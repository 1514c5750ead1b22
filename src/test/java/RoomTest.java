import java.lang.management.ManagementFactory;

/** No call makes objects: what a run of calls takes from the room is what the constructor made. */
public final class RoomTest {
    public static void main(String[] args) {
        Checks checks = new Checks();
        TextRows rows = new TextRows();
        allCalls(rows);
        long before = taken();
        for (int k = 0; k < 30; k++) {
            allCalls(rows);
        }
        // Some bytes are the measuring's own; one array a call would be far more.
        checks.due("made by the calls", taken() - before < 20000, true);
        before = taken();
        TextRows other = new TextRows();
        checks.due("made by the constructor", taken() - before < 300000, true);
        checks.due("size()", other.size(), 0);
        checks.finish();
    }

    private static void allCalls(TextRows rows) {
        rows.clear();
        for (int k = 0; k < 100; k++) {
            rows.feed(k, k * 7, -k, k << 20, ~k);
            rows.end(k % 21);
            rows.add(1 + k % 3);
        }
        for (int form = -1; form < 5; form++) {
            rows.write(form);
            rows.turn();
            rows.read(form, rows.size());
            rows.read(form, 3);
        }
        rows.length(3);
        rows.byteOf(3, 1);
        rows.output(5);
    }

    private static long taken() {
        com.sun.management.ThreadMXBean threads =
                (com.sun.management.ThreadMXBean) ManagementFactory.getThreadMXBean();
        return threads.getThreadAllocatedBytes(Thread.currentThread().getId());
    }
}
