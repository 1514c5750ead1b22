/** Promises 1 to 3: a new object, feed and end. */
public final class TapeTest {
    private static final Checks CHECKS = new Checks();

    public static void main(String[] args) {
        newObject();
        feedOrder();
        endCuts();
        endRefuses();
        tapeIsFull();
        CHECKS.finish();
    }

    private static void newObject() {
        TextRows rows = new TextRows();
        CHECKS.due("size()", rows.size(), 0);
        CHECKS.due("length(0)", rows.length(0), -1);
        CHECKS.due("byteOf(0, 0)", rows.byteOf(0, 0), -1);
        CHECKS.due("output(0)", rows.output(0), -1);
        CHECKS.due("end(1) of an empty tape", rows.end(1), false);
        CHECKS.due("read(0, 0) of an empty INPUT", rows.read(0, 0), 0);
        CHECKS.due("read(0, 1) of an empty INPUT", rows.read(0, 1), 1);
        CHECKS.due("add(1) of an empty INPUT", rows.add(1), true);
        CHECKS.due("length(0)", rows.length(0), 0);
        TextRows other = new TextRows();
        CHECKS.due("turn() of an empty output", other.turn(), true);
        CHECKS.due("write(0) of an empty row", other.write(0), 0);
        CHECKS.due("a second object's size()", other.size(), 0);
    }

    private static void feedOrder() {
        TextRows rows = new TextRows();
        CHECKS.due("feed", rows.feed(0x01020304, 0xF0F1F2F3, 0x80000000, 0x0000007F, -1), true);
        CHECKS.due("feed", rows.feed(0x41424344, 0, 0, 0, 0x45464748), true);
        CHECKS.due("end(40)", rows.end(40), true);
        CHECKS.due("add(1)", rows.add(1), true);
        CHECKS.dueBytes("text 0", Checks.textOf(rows, 0), Checks.bytes(1, 2, 3, 4,
                0xF0, 0xF1, 0xF2, 0xF3, 0x80, 0, 0, 0, 0, 0, 0, 0x7F, 255, 255, 255, 255,
                0x41, 0x42, 0x43, 0x44, 0, 0, 0, 0, 0, 0, 0, 0, 0, 0, 0, 0, 0x45, 0x46, 0x47, 0x48));
    }

    private static void endCuts() {
        TextRows rows = new TextRows();
        rows.feed(0x61626364, 0, 0, 0, 0);
        CHECKS.due("end(3)", rows.end(3), true);
        CHECKS.due("end(1) of what was behind", rows.end(1), false);
        rows.add(1);
        CHECKS.dueBytes("text 0", Checks.textOf(rows, 0), Checks.ascii("abc"));
        rows.feed(0x65666768, 0, 0, 0, 0);
        rows.add(1);
        CHECKS.dueBytes("text 1, the INPUT before end", Checks.textOf(rows, 1), Checks.ascii("abc"));
        CHECKS.due("end(2)", rows.end(2), true);
        rows.add(1);
        CHECKS.dueBytes("text 2", Checks.textOf(rows, 2), Checks.ascii("ef"));
        CHECKS.due("end(0)", rows.end(0), true);
        rows.add(1);
        CHECKS.due("length(3)", rows.length(3), 0);
        CHECKS.dueBytes("text 0 later", Checks.textOf(rows, 0), Checks.ascii("abc"));
    }

    private static void endRefuses() {
        TextRows rows = new TextRows();
        Checks.hand(rows, Checks.ascii("in"));
        rows.feed(0x61626364, 0, 0, 0, 0);
        CHECKS.due("end(21)", rows.end(21), false);
        CHECKS.due("end(-1)", rows.end(-1), false);
        CHECKS.due("end(MIN)", rows.end(Integer.MIN_VALUE), false);
        CHECKS.due("end(MAX)", rows.end(Integer.MAX_VALUE), false);
        rows.add(1);
        CHECKS.dueBytes("the INPUT stays", Checks.textOf(rows, 0), Checks.ascii("in"));
        CHECKS.due("end(20): the tape stays", rows.end(20), true);
        rows.add(1);
        CHECKS.due("length(1)", rows.length(1), 20);
        CHECKS.due("byteOf(1, 3)", rows.byteOf(1, 3), 0x64);
    }

    /** More calls than an object is promised for: the limit can't be come to with less. */
    private static void tapeIsFull() {
        TextRows rows = new TextRows();
        for (int k = 0; k < 1200; k++) {
            CHECKS.due("feed " + k, rows.feed(k, 0, 0, 0, 0), true);
        }
        CHECKS.due("feed on a full tape", rows.feed(7, 7, 7, 7, 7), false);
        CHECKS.due("end(24001)", rows.end(24001), false);
        CHECKS.due("end(24000)", rows.end(24000), true);
        CHECKS.due("feed behind it", rows.feed(1, 2, 3, 4, 5), true);
    }
}
