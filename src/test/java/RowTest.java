/** Promises 4, 5 and 9 to 11: add, clear, size, length and byteOf. */
public final class RowTest {
    private static final Checks CHECKS = new Checks();

    public static void main(String[] args) {
        ordinary();
        longest();
        mostTexts();
        mostBytes();
        wrongAmounts();
        noneSuch();
        CHECKS.finish();
    }

    private static void ordinary() {
        TextRows rows = new TextRows();
        Checks.hand(rows, Checks.bytes(0, 127, 128, 255));
        CHECKS.due("add(3)", rows.add(3), true);
        CHECKS.due("size()", rows.size(), 3);
        for (int k = 0; k < 3; k++) {
            CHECKS.dueBytes("text " + k, Checks.textOf(rows, k), Checks.bytes(0, 127, 128, 255));
        }
        rows.clear();
        CHECKS.due("size() after clear", rows.size(), 0);
        CHECKS.due("length(0) after clear", rows.length(0), -1);
        CHECKS.due("byteOf(0, 0) after clear", rows.byteOf(0, 0), -1);
        CHECKS.due("add(1): the INPUT stays", rows.add(1), true);
        CHECKS.due("byteOf(0, 3)", rows.byteOf(0, 3), 255);
        CHECKS.due("write(0)", rows.write(0), 5);
        rows.clear();
        CHECKS.due("output(4): the output stays", rows.output(4), 255);
    }

    private static void longest() {
        TextRows rows = new TextRows();
        Checks.hand(rows, Checks.filled(256, 9));
        CHECKS.due("add(1) of 256", rows.add(1), false);
        CHECKS.due("size()", rows.size(), 0);
        Checks.hand(rows, Checks.filled(255, 9));
        CHECKS.due("add(1) of 255", rows.add(1), true);
        CHECKS.due("length(0)", rows.length(0), 255);
        CHECKS.due("byteOf(0, 254)", rows.byteOf(0, 254), 9);
        CHECKS.due("byteOf(0, 255)", rows.byteOf(0, 255), -1);
    }

    private static void mostTexts() {
        TextRows rows = new TextRows();
        CHECKS.due("add(1001)", rows.add(1001), false);
        CHECKS.due("size()", rows.size(), 0);
        CHECKS.due("add(999)", rows.add(999), true);
        CHECKS.due("add(2)", rows.add(2), false);
        CHECKS.due("size()", rows.size(), 999);
        CHECKS.due("add(1)", rows.add(1), true);
        CHECKS.due("add(1)", rows.add(1), false);
        CHECKS.due("size()", rows.size(), 1000);
        CHECKS.due("length(999)", rows.length(999), 0);
        CHECKS.due("length(1000)", rows.length(1000), -1);
        rows.clear();
        CHECKS.due("add(1000) after clear", rows.add(1000), true);
    }

    private static void mostBytes() {
        TextRows rows = new TextRows();
        Checks.hand(rows, Checks.filled(250, 3));
        CHECKS.due("add(81) of 250", rows.add(81), false);
        CHECKS.due("size()", rows.size(), 0);
        CHECKS.due("add(80) of 250", rows.add(80), true);
        Checks.hand(rows, Checks.filled(1, 4));
        CHECKS.due("add(1) of 1", rows.add(1), false);
        Checks.hand(rows, Checks.bytes());
        CHECKS.due("add(920) of 0", rows.add(920), true);
        CHECKS.due("size()", rows.size(), 1000);
        rows.clear();
        Checks.hand(rows, Checks.filled(20, 5));
        CHECKS.due("add(1000) of 20", rows.add(1000), true);
        CHECKS.due("byteOf(999, 19)", rows.byteOf(999, 19), 5);
        rows.clear();
        Checks.hand(rows, Checks.filled(21, 5));
        CHECKS.due("add(953) of 21", rows.add(953), false);
        CHECKS.due("add(952) of 21", rows.add(952), true);
        Checks.hand(rows, Checks.filled(9, 5));
        CHECKS.due("add(1) of 9", rows.add(1), false);
        Checks.hand(rows, Checks.filled(8, 5));
        CHECKS.due("add(1) of 8", rows.add(1), true);
    }

    private static void wrongAmounts() {
        TextRows rows = new TextRows();
        Checks.hand(rows, Checks.filled(255, 1));
        for (int n : new int[] {0, -1, Integer.MIN_VALUE, Integer.MAX_VALUE, 1 << 24, 16843010}) {
            CHECKS.due("add(" + n + ")", rows.add(n), false);
        }
        CHECKS.due("size()", rows.size(), 0);
        CHECKS.due("add(78)", rows.add(78), true);
    }

    private static void noneSuch() {
        TextRows rows = new TextRows();
        Checks.addText(rows, Checks.ascii("xyz"));
        Checks.addText(rows, Checks.ascii("uv"));
        for (int k : new int[] {-1, 2, 1000, 1001, Integer.MIN_VALUE, Integer.MAX_VALUE}) {
            CHECKS.due("length(" + k + ")", rows.length(k), -1);
            CHECKS.due("byteOf(" + k + ", 0)", rows.byteOf(k, 0), -1);
        }
        for (int i : new int[] {-1, 3, 4, Integer.MIN_VALUE, Integer.MAX_VALUE}) {
            CHECKS.due("byteOf(0, " + i + ")", rows.byteOf(0, i), -1);
        }
        CHECKS.due("byteOf(1, 2)", rows.byteOf(1, 2), -1);
        CHECKS.due("byteOf(1, 1)", rows.byteOf(1, 1), 'v');
    }
}
