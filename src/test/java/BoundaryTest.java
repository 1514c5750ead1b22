import java.util.ArrayList;
import java.util.Arrays;
import java.util.Collections;
import java.util.List;

/** One test for each sentence of the document that names a boundary, but for the faults of read. */
public final class BoundaryTest {
    private static final Checks CHECKS = new Checks();

    public static void main(String[] args) {
        newObjectIsEmpty();
        feedWithoutRoom();
        fullTapeIsRead();
        endOfAllOfNoneAndOfMore();
        refusedEndChangesNothing();
        addOfNoneAndOfLongTexts();
        addOfTooMany();
        addOfTooMuch();
        refusedAddChangesNothing();
        clearLeavesTheRest();
        writeOfNoForm();
        writeLeavesTheRest();
        readOfNoFormOrNumber();
        readLeavesTheRest();
        turnOfTheLargest();
        turnLeavesTheRest();
        lengthOfNone();
        byteOfNone();
        outputOfNone();
        CHECKS.finish();
    }

    private static void text(String what, TextRows rows, int k, byte[] want) {
        CHECKS.due(what + ": length(" + k + ")", rows.length(k), want.length);
        CHECKS.dueBytes(what + ": text " + k, Checks.textOf(rows, k), want);
    }

    /** An empty row, tape, INPUT and output. */
    private static void newObjectIsEmpty() {
        CHECKS.due("new: size()", new TextRows().size(), 0);
        CHECKS.due("new: end(1)", new TextRows().end(1), false);
        CHECKS.due("new: end(0)", new TextRows().end(0), true);
        CHECKS.due("new: output(0)", new TextRows().output(0), -1);
        CHECKS.due("new: read(0, 0)", new TextRows().read(0, 0), 0);
        TextRows rows = new TextRows();
        CHECKS.due("new: add(1)", rows.add(1), true);
        text("the INPUT of a new object", rows, 0, Checks.bytes());
        for (int form = 0; form < 4; form++) {
            int[] amounts = {0, 2, 4, 2};
            CHECKS.due("new: write(" + form + ")", new TextRows().write(form), amounts[form]);
        }
    }

    /** Twenty bytes, at most 24000: false if it hasn't room. It takes more calls than are promised. */
    private static void feedWithoutRoom() {
        TextRows rows = new TextRows();
        for (int k = 0; k < 1199; k++) {
            rows.feed(0, 0, 0, 0, 0);
        }
        CHECKS.due("end(23981) before the last twenty", rows.end(23981), false);
        CHECKS.due("feed into the last room", rows.feed(0, 0, 0, 0, 0), true);
        CHECKS.due("feed without room", rows.feed(0, 0, 0, 0, 0), false);
        CHECKS.due("feed without room again", rows.feed(0, 0, 0, 0, 0), false);
        CHECKS.due("end(24001)", rows.end(24001), false);
        CHECKS.due("end(24000)", rows.end(24000), true);
        CHECKS.due("end(1): the tape is empty", rows.end(1), false);
        CHECKS.due("feed on the empty tape", rows.feed(1, 2, 3, 4, 5), true);
        CHECKS.due("end(20)", rows.end(20), true);
        rows.add(1);
        CHECKS.due("byteOf(0, 19)", rows.byteOf(0, 19), 5);
    }

    /** Each of the 24000 bytes is kept, and a refused feed has changed none. */
    private static void fullTapeIsRead() {
        // Parts of 64 bits make the CODE of 1000 lengths 8147 bytes long: 15851 are left.
        int[] lengths = new int[1000];
        Arrays.fill(lengths, 15);
        Arrays.fill(lengths, 1, 4, 255);
        lengths[999] = 15851 - 3 * 255 - 996 * 15;
        byte[] code = wideCode(lengths);
        byte[] cells = Checks.join(Oracle.varint(code.length), code, rising(15851));
        CHECKS.due("bytes made", cells.length, 24000);
        TextRows rows = new TextRows();
        for (int from = 0; from < 24000; from += 20) {
            int[] five = new int[5];
            for (int k = 0; k < 20; k++) {
                five[k / 4] = five[k / 4] << 8 | cells[from + k] & 255;
            }
            rows.feed(five[0], five[1], five[2], five[3], five[4]);
        }
        CHECKS.due("feed on a full tape", rows.feed(-1, -1, -1, -1, -1), false);
        CHECKS.due("end(24000)", rows.end(24000), true);
        CHECKS.due("read(1, 1000)", rows.read(1, 1000), 0);
        int at = 0;
        for (int k = 0; k < 1000; k++) {
            text("full tape", rows, k, Arrays.copyOfRange(rising(15851), at, at + lengths[k]));
            at += lengths[k];
        }
    }

    private static byte[] rising(int amount) {
        byte[] cells = new byte[amount];
        for (int k = 0; k < amount; k++) {
            cells[k] = (byte) (k + k / 251);
        }
        return cells;
    }

    /** A CODE with widths of 64: as READ allows, though none is WRITTEN so. */
    private static byte[] wideCode(int[] numbers) {
        byte[] code = Checks.join(Oracle.varint(numbers.length), Oracle.zigzag(numbers[0]));
        for (int from = 1; from < numbers.length; from += 64) {
            int amount = Math.min(64, numbers.length - from);
            int parts = (amount + 15) / 16;
            byte[] widths = new byte[4];
            Arrays.fill(widths, 0, parts, (byte) 64);
            StringBuilder bits = new StringBuilder();
            for (int k = from; k < from + amount; k++) {
                bits.append(Oracle.lowFirst((long) numbers[k] - numbers[k - 1], 64));
            }
            code = Checks.join(code, Checks.bytes(0), widths, Oracle.packed(bits, parts * 128));
        }
        return code;
    }

    /** The INPUT becomes the first n bytes; false if it hasn't so many, or n is below 0. */
    private static void endOfAllOfNoneAndOfMore() {
        TextRows rows = new TextRows();
        rows.feed(0x01020304, 0x05060708, 0x090A0B0C, 0x0D0E0F10, 0x11121314);
        CHECKS.due("end(21) of twenty", rows.end(21), false);
        CHECKS.due("end(20) of twenty", rows.end(20), true);
        rows.add(1);
        text("all", rows, 0, Checks.bytes(1, 2, 3, 4, 5, 6, 7, 8, 9, 10, 11, 12, 13, 14, 15, 16, 17, 18, 19, 20));
        CHECKS.due("end(1) of none", rows.end(1), false);
        CHECKS.due("end(-1) of none", rows.end(-1), false);
        rows.feed(-1, -1, -1, -1, -1);
        CHECKS.due("end(0) of twenty", rows.end(0), true);
        rows.add(1);
        text("none", rows, 1, Checks.bytes());
        CHECKS.due("end(1): what was behind is gone", rows.end(1), false);
        CHECKS.due("end(0) of none", rows.end(0), true);
        rows.feed(0x41000000, 0, 0, 0, 0);
        CHECKS.due("end(1) of twenty", rows.end(1), true);
        rows.add(1);
        text("one", rows, 2, Checks.ascii("A"));
        CHECKS.due("end(19): the rest is gone", rows.end(19), false);
    }

    private static void refusedEndChangesNothing() {
        for (int n : new int[] {21, 24001, Integer.MAX_VALUE, -1, -20, Integer.MIN_VALUE}) {
            TextRows rows = new TextRows();
            Checks.addText(rows, Checks.ascii("old"));
            rows.feed(0x6E657700, 0, 0, 0, 0);
            CHECKS.due("end(" + n + ")", rows.end(n), false);
            rows.add(1);
            text("the INPUT stays", rows, 1, Checks.ascii("old"));
            CHECKS.due("end(3): the tape stays", rows.end(3), true);
            rows.add(1);
            text("the tape stays", rows, 2, Checks.ascii("new"));
        }
    }

    /** Texts of 0 .. 255 bytes: false if it is longer than 255. */
    private static void addOfNoneAndOfLongTexts() {
        for (int amount : new int[] {0, 1, 127, 128, 254, 255}) {
            TextRows rows = new TextRows();
            Checks.hand(rows, rising(amount));
            CHECKS.due("add(2) of " + amount, rows.add(2), true);
            text("of " + amount, rows, 0, rising(amount));
            text("of " + amount, rows, 1, rising(amount));
        }
        for (int amount : new int[] {256, 257, 511, 512, 5000}) {
            TextRows rows = new TextRows();
            Checks.hand(rows, rising(amount));
            CHECKS.due("add(1) of " + amount, rows.add(1), false);
            CHECKS.due("size()", rows.size(), 0);
        }
    }

    /** At most 1000 texts: false, and none, if there would be too many, or n is below 1. */
    private static void addOfTooMany() {
        for (int before : new int[] {0, 1, 500, 999}) {
            TextRows rows = new TextRows();
            if (before > 0) {
                rows.add(before);
            }
            CHECKS.due(before + ", add one too many", rows.add(1001 - before), false);
            CHECKS.due(before + ", add(MAX)", rows.add(Integer.MAX_VALUE), false);
            CHECKS.due(before + ", size()", rows.size(), before);
            CHECKS.due(before + ", add the rest", rows.add(1000 - before), true);
            CHECKS.due(before + ", size()", rows.size(), 1000);
            CHECKS.due(before + ", add(1) to all", rows.add(1), false);
            CHECKS.due(before + ", size()", rows.size(), 1000);
        }
        for (int n : new int[] {0, -1, -1000, Integer.MIN_VALUE}) {
            TextRows rows = new TextRows();
            CHECKS.due("add(" + n + ")", rows.add(n), false);
            CHECKS.due("size()", rows.size(), 0);
        }
    }

    /** Together at most 20000 bytes: false, and none, if there would be too much. */
    private static void addOfTooMuch() {
        TextRows rows = new TextRows();
        Checks.hand(rows, rising(200));
        CHECKS.due("add(101) of 200", rows.add(101), false);
        CHECKS.due("size()", rows.size(), 0);
        CHECKS.due("add(99) of 200", rows.add(99), true);
        CHECKS.due("add(2) of 200", rows.add(2), false);
        CHECKS.due("size()", rows.size(), 99);
        Checks.hand(rows, rising(201));
        CHECKS.due("add(1) of 201", rows.add(1), false);
        Checks.hand(rows, rising(200));
        CHECKS.due("add(1) of 200", rows.add(1), true);
        Checks.hand(rows, rising(1));
        CHECKS.due("add(1) of 1", rows.add(1), false);
        Checks.hand(rows, rising(0));
        CHECKS.due("add(1) of 0", rows.add(1), true);
        CHECKS.due("size()", rows.size(), 101);
        text("the last of 200", rows, 99, rising(200));
        text("behind it", rows, 100, rising(0));
    }

    private static void refusedAddChangesNothing() {
        TextRows rows = new TextRows();
        Checks.addText(rows, Checks.ascii("row"));
        rows.write(0);
        Checks.hand(rows, Checks.ascii("in"));
        CHECKS.due("add(0)", rows.add(0), false);
        CHECKS.due("add(1000)", rows.add(1000), false);
        CHECKS.due("size()", rows.size(), 1);
        text("the row stays", rows, 0, Checks.ascii("row"));
        CHECKS.due("output(3)", rows.output(3), 'w');
        CHECKS.due("add(999)", rows.add(999), true);
        text("the INPUT stays", rows, 1, Checks.ascii("in"));
        text("the INPUT stays", rows, 999, Checks.ascii("in"));
    }

    /** The row is empty; the tape, the INPUT and the output stay. */
    private static void clearLeavesTheRest() {
        TextRows rows = new TextRows();
        rows.clear();
        CHECKS.due("clear of an empty row: size()", rows.size(), 0);
        Checks.addText(rows, Checks.ascii("ab"));
        rows.write(0);
        rows.feed(0x63640000, 0, 0, 0, 0);
        rows.clear();
        CHECKS.due("clear: size()", rows.size(), 0);
        CHECKS.due("clear: length(0)", rows.length(0), -1);
        CHECKS.due("clear: byteOf(0, 0)", rows.byteOf(0, 0), -1);
        CHECKS.due("clear: output(2)", rows.output(2), 'b');
        CHECKS.due("clear: output(3)", rows.output(3), -1);
        rows.add(1);
        text("clear: the INPUT", rows, 0, Checks.ascii("ab"));
        CHECKS.due("clear: end(2)", rows.end(2), true);
        rows.add(1);
        text("clear: the tape", rows, 1, Checks.ascii("cd"));
        rows.clear();
        CHECKS.due("write(1) of a cleared row", rows.write(1), 2);
        Checks.hand(rows, rising(20));
        CHECKS.due("add(1000) to a cleared row", rows.add(1000), true);
    }

    /** NONE (the output is empty then) if there is no such FORM. */
    private static void writeOfNoForm() {
        for (int form : new int[] {-1, 4, 5, -4, Integer.MAX_VALUE, Integer.MIN_VALUE}) {
            TextRows rows = new TextRows();
            Checks.addText(rows, Checks.ascii("ab"));
            CHECKS.due("write(3)", rows.write(3), 6);
            CHECKS.due("write(" + form + ")", rows.write(form), -1);
            for (int k = 0; k < 7; k++) {
                CHECKS.due("output(" + k + ") of no FORM", rows.output(k), -1);
            }
            CHECKS.due("size(): the row stays", rows.size(), 1);
            CHECKS.due("turn() of the empty output", rows.turn(), true);
            CHECKS.due("read(0, 0) of the empty INPUT", rows.read(0, 0), 0);
        }
    }

    private static void writeLeavesTheRest() {
        for (int form = 0; form < 4; form++) {
            TextRows rows = new TextRows();
            Checks.addText(rows, Checks.ascii("ab"));
            Checks.addText(rows, Checks.ascii("abc"));
            rows.feed(0x63640000, 0, 0, 0, 0);
            int amount = rows.write(form);
            byte[] cells = Checks.outputOf(rows, amount);
            CHECKS.due("write(" + form + ") again", rows.write(form), amount);
            CHECKS.dueBytes("output again", Checks.outputOf(rows, amount), cells);
            CHECKS.due("write: size()", rows.size(), 2);
            text("write: the row", rows, 0, Checks.ascii("ab"));
            rows.add(1);
            text("write: the INPUT", rows, 2, Checks.ascii("abc"));
            CHECKS.due("write: end(2)", rows.end(2), true);
            rows.add(1);
            text("write: the tape", rows, 3, Checks.ascii("cd"));
        }
    }

    /** A FORM of n texts (0 .. 1000); NONE if there is no such FORM or n. */
    private static void readOfNoFormOrNumber() {
        for (int form = 0; form < 4; form++) {
            for (int n : new int[] {0, 1, 999, 1000}) {
                TextRows rows = new TextRows();
                Checks.hand(rows, Oracle.write(form, Collections.nCopies(n, new byte[0])));
                CHECKS.due("read(" + form + ", " + n + ")", rows.read(form, n), 0);
                CHECKS.due("size()", rows.size(), n);
            }
            for (int n : new int[] {-1, 1001, 2000, Integer.MIN_VALUE, Integer.MAX_VALUE}) {
                int amount = Math.max(0, Math.min(n, 2000));
                noRead(form, n, Oracle.write(form, Collections.nCopies(amount, new byte[0])));
            }
        }
        for (int form : new int[] {-1, 4, Integer.MIN_VALUE, Integer.MAX_VALUE}) {
            noRead(form, 0, Checks.bytes());
            noRead(form, 1, Checks.bytes(0));
            noRead(form, 1001, Checks.bytes());
        }
    }

    private static void noRead(int form, int n, byte[] cells) {
        TextRows rows = new TextRows();
        Checks.addText(rows, Checks.ascii("stay"));
        Checks.hand(rows, cells);
        CHECKS.due("read(" + form + ", " + n + ")", rows.read(form, n), -1);
        CHECKS.due("size()", rows.size(), 1);
        text("no read", rows, 0, Checks.ascii("stay"));
    }

    private static void readLeavesTheRest() {
        for (int n = 1; n < 4; n++) {
            TextRows rows = new TextRows();
            Checks.addText(rows, Checks.ascii("out"));
            rows.write(0);
            Checks.hand(rows, Checks.bytes(1, 'x', 1, 'y'));
            rows.feed(0x63640000, 0, 0, 0, 0);
            CHECKS.due("read(0, " + n + ")", rows.read(0, n), n == 1 ? 6 : n == 2 ? 0 : 1);
            CHECKS.due("read(0, " + n + ") again", rows.read(0, n), n == 1 ? 6 : n == 2 ? 0 : 1);
            CHECKS.due("read: output(3)", rows.output(3), 't');
            CHECKS.due("read: output(4)", rows.output(4), -1);
            rows.add(1);
            text("read: the INPUT", rows, rows.size() - 1, Checks.bytes(1, 'x', 1, 'y'));
            CHECKS.due("read: end(2)", rows.end(2), true);
            rows.add(1);
            text("read: the tape", rows, rows.size() - 1, Checks.ascii("cd"));
        }
    }

    /** False if it has more than 24000 bytes: no row comes to that, the largest ones turn. */
    private static void turnOfTheLargest() {
        List<byte[]> texts = new ArrayList<>();
        int total = 0;
        for (int k = 0; k < 1000; k++) {
            // A long text in each part makes every width as large as it can be.
            byte[] made = new byte[k % 16 == 8 ? 255 : k < 467 ? 5 : 4];
            made[0] = (byte) k;
            made[1] = (byte) (k >> 8);
            texts.add(made);
            total += made.length;
        }
        CHECKS.due("bytes made", total, 20000);
        TextRows rows = new TextRows();
        for (byte[] made : texts) {
            Checks.addText(rows, made);
        }
        for (int form = 0; form < 4; form++) {
            int amount = rows.write(form);
            CHECKS.due("largest: write(" + form + ")", amount, Oracle.write(form, texts).length);
            CHECKS.due("largest: above 21000", amount > 21000, true);
            CHECKS.due("largest: turn()", rows.turn(), true);
            CHECKS.due("largest: read(" + form + ")", rows.read(form, 1000), 0);
            text("largest", rows, 999, texts.get(999));
        }
    }

    private static void turnLeavesTheRest() {
        TextRows rows = new TextRows();
        Checks.addText(rows, Checks.ascii("ab"));
        rows.write(0);
        rows.feed(0x63640000, 0, 0, 0, 0);
        CHECKS.due("turn()", rows.turn(), true);
        CHECKS.due("turn() again", rows.turn(), true);
        CHECKS.due("turn: size()", rows.size(), 1);
        CHECKS.due("turn: output(2)", rows.output(2), 'b');
        rows.add(1);
        text("turn: the INPUT", rows, 1, Checks.bytes(2, 'a', 'b'));
        rows.write(2);
        rows.add(1);
        text("a later output is not the INPUT", rows, 2, Checks.bytes(2, 'a', 'b'));
        CHECKS.due("turn: end(2)", rows.end(2), true);
        rows.add(1);
        text("turn: the tape", rows, 3, Checks.ascii("cd"));
    }

    private static void lengthOfNone() {
        TextRows rows = new TextRows();
        Checks.addText(rows, rising(255));
        Checks.addText(rows, rising(0));
        CHECKS.due("length(0)", rows.length(0), 255);
        CHECKS.due("length(1)", rows.length(1), 0);
        for (int k : new int[] {2, 3, 999, 1000, 1001, Integer.MAX_VALUE, -1, -2, Integer.MIN_VALUE}) {
            CHECKS.due("length(" + k + ")", rows.length(k), -1);
        }
        rows.add(998);
        CHECKS.due("length(999) of 1000", rows.length(999), 0);
        CHECKS.due("length(1000) of 1000", rows.length(1000), -1);
        CHECKS.due("length(1001) of 1000", rows.length(1001), -1);
    }

    private static void byteOfNone() {
        TextRows rows = new TextRows();
        Checks.addText(rows, Checks.bytes(0, 255));
        Checks.addText(rows, Checks.bytes());
        Checks.addText(rows, Checks.bytes(128));
        CHECKS.due("byteOf(0, 0)", rows.byteOf(0, 0), 0);
        CHECKS.due("byteOf(0, 1)", rows.byteOf(0, 1), 255);
        CHECKS.due("byteOf(2, 0)", rows.byteOf(2, 0), 128);
        for (int i : new int[] {2, 3, Integer.MAX_VALUE, -1, -2, Integer.MIN_VALUE}) {
            CHECKS.due("byteOf(0, " + i + ")", rows.byteOf(0, i), -1);
        }
        CHECKS.due("byteOf(1, 0)", rows.byteOf(1, 0), -1);
        CHECKS.due("byteOf(1, -1)", rows.byteOf(1, -1), -1);
        CHECKS.due("byteOf(2, -1)", rows.byteOf(2, -1), -1);
        CHECKS.due("byteOf(2, 1)", rows.byteOf(2, 1), -1);
        for (int k : new int[] {3, 1000, 1001, Integer.MAX_VALUE, -1, Integer.MIN_VALUE}) {
            CHECKS.due("byteOf(" + k + ", 0)", rows.byteOf(k, 0), -1);
            CHECKS.due("byteOf(" + k + ", " + k + ")", rows.byteOf(k, k), -1);
        }
    }

    private static void outputOfNone() {
        TextRows rows = new TextRows();
        Checks.addText(rows, Checks.bytes(0, 255));
        rows.write(0);
        CHECKS.due("output(0)", rows.output(0), 2);
        CHECKS.due("output(1)", rows.output(1), 0);
        CHECKS.due("output(2)", rows.output(2), 255);
        for (int k : new int[] {3, 23999, 24000, Integer.MAX_VALUE, -1, Integer.MIN_VALUE}) {
            CHECKS.due("output(" + k + ")", rows.output(k), -1);
        }
        rows.clear();
        rows.write(0);
        CHECKS.due("output(0) of an empty row", rows.output(0), -1);
    }
}
