/** Promise 7: read, its faults one by one and in their order. */
public final class ReadTest {
    private static final Checks CHECKS = new Checks();

    public static void main(String[] args) {
        noSuchFormOrAmount();
        rowStays();
        varints();
        plain();
        codes();
        lengths();
        front();
        dictionary();
        runs();
        tooMuch();
        CHECKS.finish();
    }

    private static void answered(String what, int form, int n, int want, int... cells) {
        answered(what, form, n, want, Checks.bytes(cells));
    }

    private static void answered(String what, int form, int n, int want, byte[] cells) {
        TextRows rows = new TextRows();
        Checks.hand(rows, cells);
        CHECKS.due(what + ": read(" + form + ", " + n + ")", rows.read(form, n), want);
        CHECKS.due(what + ": size()", rows.size(), want == 0 ? n : 0);
    }

    private static void noSuchFormOrAmount() {
        TextRows rows = new TextRows();
        Checks.addText(rows, Checks.ascii("k"));
        Checks.hand(rows, Checks.bytes());
        for (int n : new int[] {-1, 1001, Integer.MIN_VALUE, Integer.MAX_VALUE}) {
            for (int form = 0; form < 4; form++) {
                CHECKS.due("read(" + form + ", " + n + ")", rows.read(form, n), -1);
            }
        }
        for (int form : new int[] {-1, 4, Integer.MIN_VALUE, Integer.MAX_VALUE}) {
            CHECKS.due("read(" + form + ", 0)", rows.read(form, 0), -1);
            CHECKS.due("read(" + form + ", -1)", rows.read(form, -1), -1);
        }
        CHECKS.due("size()", rows.size(), 1);
        Checks.hand(rows, Checks.filled(1000, 0));
        CHECKS.due("read(0, 1000)", rows.read(0, 1000), 0);
        CHECKS.due("size()", rows.size(), 1000);
    }

    private static void rowStays() {
        TextRows rows = new TextRows();
        Checks.addText(rows, Checks.ascii("keep"));
        rows.write(0);
        Checks.hand(rows, Checks.bytes(1, 'x', 1, 'y', 2, 'z'));
        CHECKS.due("read(0, 3)", rows.read(0, 3), 1);
        CHECKS.due("size()", rows.size(), 1);
        CHECKS.dueBytes("text 0", Checks.textOf(rows, 0), Checks.ascii("keep"));
        Checks.hand(rows, Checks.bytes(1, 'x', 1, 'y'));
        CHECKS.due("read(0, 2)", rows.read(0, 2), 0);
        CHECKS.due("read(0, 2) again", rows.read(0, 2), 0);
        CHECKS.due("size()", rows.size(), 2);
        CHECKS.dueBytes("text 1", Checks.textOf(rows, 1), Checks.ascii("y"));
        CHECKS.due("output(1)", rows.output(1), 'k');
        CHECKS.due("add(1) behind what was read", rows.add(1), true);
        CHECKS.dueBytes("text 2", Checks.textOf(rows, 2), Checks.bytes(1, 'x', 1, 'y'));
        CHECKS.dueBytes("text 0", Checks.textOf(rows, 0), Checks.ascii("x"));
    }

    private static void varints() {
        answered("none", 0, 1, 1);
        answered("cut", 0, 1, 1, 0x80);
        answered("one 0 too many", 0, 1, 2, 0x80, 0);
        answered("one 0 too many, later", 0, 1, 2, 0x81, 0x80, 0);
        answered("256", 0, 1, 7, 0x80, 2);
        answered("nine bytes", 0, 1, 7, 255, 255, 255, 255, 255, 255, 255, 255, 127);
        answered("ten bytes", 0, 1, 7, 255, 255, 255, 255, 255, 255, 255, 255, 255, 1);
        answered("2 to the 63", 0, 1, 7, 128, 128, 128, 128, 128, 128, 128, 128, 128, 1);
        answered("tenth 0", 0, 1, 2, 255, 255, 255, 255, 255, 255, 255, 255, 255, 0);
        answered("tenth 2", 0, 1, 2, 255, 255, 255, 255, 255, 255, 255, 255, 255, 2);
        answered("tenth 129", 0, 1, 2, 128, 128, 128, 128, 128, 128, 128, 128, 128, 129, 1);
        answered("cut before the tenth", 0, 1, 1, 128, 128, 128, 128, 128, 128, 128, 128, 128);
    }

    private static void plain() {
        answered("none", 0, 0, 0);
        answered("more than none", 0, 0, 6, 0);
        answered("texts", 0, 3, 0, 1, 'a', 0, 2, 'b', 'c');
        answered("more", 0, 2, 6, 1, 'a', 0, 2, 'b', 'c');
        answered("a text too few", 0, 4, 1, 1, 'a', 0, 2, 'b', 'c');
        answered("bytes lack", 0, 1, 1, 3, 'a', 'b');
        answered("255", 0, 1, 0, Checks.join(Checks.bytes(255, 1), Checks.filled(255, 1)));
        answered("254 of 255", 0, 1, 1, Checks.join(Checks.bytes(255, 1), Checks.filled(254, 1)));
        answered("256", 0, 1, 7, Checks.join(Checks.bytes(128, 2), Checks.filled(256, 1)));
    }

    private static void codes() {
        answered("its length lacks", 1, 0, 1);
        answered("no bytes in it", 1, 0, 1, 0);
        answered("longer than there is", 1, 1, 1, 4, 1, 2, 'a');
        answered("2 to the 63 long", 1, 0, 1, 128, 128, 128, 128, 128, 128, 128, 128, 128, 1, 0);
        answered("m cut by its end", 1, 0, 1, 1, 0x80, 1);
        answered("m not as told", 1, 0, 2, 2, 0x80, 0);
        answered("m 2001", 1, 0, 4, 2, 0xD1, 0x0F);
        answered("m 2000, then cut", 1, 0, 1, 2, 0xD0, 0x0F);
        answered("m 2 to the 63", 1, 0, 4, 10, 128, 128, 128, 128, 128, 128, 128, 128, 128, 1);
        answered("first one lacks", 1, 1, 1, 1, 1);
        answered("least lacks", 1, 2, 1, 2, 2, 2);
        answered("widths lack", 1, 2, 1, 6, 2, 2, 0, 0, 0, 0);
        answered("width 65 before those that lack", 1, 2, 5, 4, 2, 2, 0, 65);
        answered("width 255", 1, 2, 5, 7, 2, 2, 0, 255, 0, 0, 0);
        answered("width without differences", 1, 2, 5, 7, 2, 2, 0, 0, 1, 0, 0);
        answered("17 differences: second part", 1, 18, 0, 7, 18, 0, 0, 0, 0, 0, 0);
        answered("17 differences: third width", 1, 18, 5, 7, 18, 0, 0, 0, 0, 1, 0);
        answered("part lacks", 1, 2, 1, 8, 2, 2, 0, 1, 0, 0, 0, 0);
        answered("bits left of a part", 1, 2, 5, 9, 2, 0, 0, 1, 0, 0, 0, 2, 0);
        answered("last bit left of a part", 1, 2, 5, 9, 2, 0, 0, 1, 0, 0, 0, 0, 128);
        answered("wider than need be", 1, 2, 0, 9, 2, 0, 0, 1, 0, 0, 0, 0, 0);
        answered("more behind it", 1, 1, 6, 3, 1, 0, 0);
        answered("more behind none", 1, 0, 6, 2, 0, 0);
        answered("more before m is not n", 1, 2, 6, 3, 1, 0, 0);
        answered("m not n, but first its bytes", 1, 5, 5, 4, 2, 2, 0, 65);
        answered("m less than n", 1, 2, 4, 2, 1, 0);
        answered("m more than n", 1, 0, 4, 2, 1, 0);
        answered("m 2000 of 1000", 1, 1000, 4, Oracle.write(1, manyEmpty(2000)));
        answered("m 1000", 1, 1000, 0, Oracle.write(1, manyEmpty(1000)));
        // Differences of 64 bits: 0, then 1 and 2 to the 63, which is below 0 in a long, then 2.
        answered("wraps round", 1, 3, 7, Checks.join(Checks.bytes(0x87, 1, 3, 0, 0, 64, 0, 0, 0,
                1, 0, 0, 0, 0, 0, 0, 128, 1, 0, 0, 0, 0, 0, 0, 128), Checks.filled(112, 0)));
        // 1, then 2 to the 63 less 2 to the 63 more: 1.
        answered("wraps back", 1, 2, 0, Checks.join(Checks.bytes(0x90, 1, 2, 2,
                255, 255, 255, 255, 255, 255, 255, 255, 255, 1, 64, 0, 0, 0,
                0, 0, 0, 0, 0, 0, 0, 128), Checks.filled(120, 0), Checks.bytes('a', 'b')));
    }

    private static java.util.List<byte[]> manyEmpty(int amount) {
        return java.util.Collections.nCopies(amount, new byte[0]);
    }

    private static void lengths() {
        answered("a text", 1, 1, 0, 2, 1, 4, 'a', 'b');
        answered("below 0", 1, 1, 7, 2, 1, 1);
        answered("256", 1, 1, 7, 3, 1, 128, 4);
        answered("255", 1, 1, 0, Checks.join(Checks.bytes(3, 1, 0xFE, 3), Checks.filled(255, 1)));
        answered("bytes lack", 1, 1, 1, 2, 1, 4, 'a');
        answered("more", 1, 1, 6, 2, 1, 4, 'a', 'b', 'c');
        answered("a later length before bytes", 1, 2, 7, 7, 2, 4, 5, 0, 0, 0, 0);
        answered("both texts", 1, 2, 0, 7, 2, 4, 3, 0, 0, 0, 0, 'a', 'b');
        answered("2 to the 62", 1, 1, 7, 11, 1, 128, 128, 128, 128, 128, 128, 128, 128, 128, 1);
        answered("2 to the 32", 1, 1, 7, 6, 1, 128, 128, 128, 128, 32);
    }

    private static void front() {
        answered("none", 2, 0, 0, 1, 0, 1, 0);
        answered("second CODE lacks", 2, 0, 1, 1, 0);
        answered("first m before the second CODE", 2, 1, 4, 1, 0, 200);
        answered("second m", 2, 0, 4, 1, 0, 2, 1, 0);
        answered("a text", 2, 1, 0, 2, 1, 0, 2, 1, 2, 'a');
        answered("first one with one in common", 2, 1, 7, 2, 1, 2, 2, 1, 2, 'a', 'b');
        answered("common below 0", 2, 1, 7, 2, 1, 1, 2, 1, 4, 'a', 'b');
        answered("more below 0", 2, 1, 7, 2, 1, 0, 2, 1, 1);
        answered("bytes lack", 2, 1, 1, 2, 1, 0, 2, 1, 4, 'a');
        answered("more behind", 2, 1, 6, 2, 1, 0, 2, 1, 2, 'a', 'b');
        // In common 0, 1; more 2, 1.
        answered("two texts", 2, 2, 0, 7, 2, 0, 2, 0, 0, 0, 0, 7, 2, 4, 1, 0, 0, 0, 0, 'a', 'b', 'c');
        // In common 0, 3; more 2, 1: the first text's bytes come before.
        answered("too much in common", 2, 2, 7,
                7, 2, 0, 6, 0, 0, 0, 0, 7, 2, 4, 1, 0, 0, 0, 0, 'a', 'b', 'c');
        answered("bytes lack before too much in common", 2, 2, 1,
                7, 2, 0, 6, 0, 0, 0, 0, 7, 2, 4, 1, 0, 0, 0, 0, 'a');
        // In common 0, 2; more 2, -1.
        answered("less than in common", 2, 2, 7,
                7, 2, 0, 4, 0, 0, 0, 0, 7, 2, 4, 5, 0, 0, 0, 0, 'a', 'b');
        // In common 0, 255; more 255, 0; then 255, 1.
        byte[] commons = Oracle.code(new long[] {0, 255});
        answered("255 in common", 2, 2, 0, fronts(commons, Oracle.code(new long[] {255, 0}), 255));
        answered("256 together", 2, 2, 7, fronts(commons, Oracle.code(new long[] {255, 1}), 256));
        answered("sum wraps", 2, 2, 7, fronts(Oracle.code(new long[] {0, 1}),
                Oracle.code(new long[] {1, Long.MAX_VALUE}), 1));
        TextRows rows = new TextRows();
        Checks.hand(rows, Checks.bytes(
                7, 2, 0, 2, 0, 0, 0, 0, 7, 2, 4, 1, 0, 0, 0, 0, 'a', 'b', 'c'));
        CHECKS.due("less in common than there is", rows.read(2, 2), 0);
        CHECKS.dueBytes("text 1", Checks.textOf(rows, 1), Checks.ascii("ac"));
    }

    private static byte[] fronts(byte[] commons, byte[] mores, int amount) {
        return Checks.join(Oracle.varint(commons.length), commons,
                Oracle.varint(mores.length), mores, Checks.filled(amount, 7));
    }

    private static void dictionary() {
        answered("none", 3, 0, 0, 0, 0);
        answered("none, wide", 3, 0, 0, 0, 32);
        answered("none, too wide", 3, 0, 5, 0, 33);
        answered("d lacks", 3, 0, 1);
        answered("width lacks", 3, 0, 1, 0);
        answered("d above n", 3, 0, 4, 1, 1, 'a', 0);
        answered("d 2 to the 63", 3, 3, 4, 128, 128, 128, 128, 128, 128, 128, 128, 128, 1);
        answered("its text lacks", 3, 1, 1, 1, 2, 'a');
        answered("its text too long", 3, 1, 7, 1, 128, 2);
        answered("its text before the width", 3, 2, 7, 2, 0, 128, 2);
        answered("not all of it used", 3, 2, 0, 2, 1, 'a', 1, 'b', 1, 4, 1);
        answered("the same twice in it", 3, 2, 0, 2, 1, 'a', 1, 'a', 1, 3, 2);
        answered("a number too high", 3, 1, 7, 1, 1, 'a', 1, 2, 1);
        answered("more before the numbers", 3, 1, 6, 1, 1, 'a', 1, 2, 1, 0);
        answered("a high number of 32 bits", 3, 1, 7, 1, 1, 'a', 32, 2, 255, 255, 255, 255);
        answered("32 bits", 3, 1, 0, 1, 1, 'a', 32, 2, 0, 0, 0, 0);
        TextRows rows = new TextRows();
        Checks.hand(rows, Checks.bytes(2, 2, 'a', 'b', 0, 3, 4, 0, 3, 8, 0, 0));
        CHECKS.due("texts", rows.read(3, 5), 0);
        CHECKS.dueBytes("text 0", Checks.textOf(rows, 0), Checks.ascii("ab"));
        CHECKS.dueBytes("text 2", Checks.textOf(rows, 2), Checks.ascii("ab"));
        CHECKS.dueBytes("text 3", Checks.textOf(rows, 3), Checks.ascii(""));
        CHECKS.dueBytes("text 4", Checks.textOf(rows, 4), Checks.ascii("ab"));
    }

    private static void runs() {
        answered("lacks", 3, 1, 1, 1, 0, 0);
        answered("ONE, none times", 3, 1, 3, 1, 0, 0, 0);
        answered("no GROUPS", 3, 1, 3, 1, 0, 0, 1);
        answered("ONE too often", 3, 1, 4, 1, 0, 0, 4);
        answered("ONE too often, and cut", 3, 1, 4, 1, 0, 8, 4);
        answered("ONE, 2 to the 63 less 1 times", 3, 1, 4, 1, 0, 0,
                254, 255, 255, 255, 255, 255, 255, 255, 255, 1);
        answered("2 to the 63 less 1 GROUPS", 3, 1, 4, 1, 0, 0,
                255, 255, 255, 255, 255, 255, 255, 255, 255, 1);
        answered("last group not needed", 3, 8, 4, 1, 0, 0, 5);
        answered("last group needed", 3, 9, 0, 1, 0, 0, 5);
        answered("too few, then no more", 3, 9, 1, 1, 0, 0, 3);
        answered("group lacks", 3, 1, 1, 1, 0, 2, 3, 0);
        answered("number lacks", 3, 1, 1, 1, 0, 9, 2, 0);
        answered("bits of the number", 3, 1, 5, 1, 0, 9, 2, 0, 2);
        answered("bits of the number, seven wide", 3, 1, 5, 1, 0, 7, 2, 128);
        answered("eight wide: none", 3, 1, 7, 1, 0, 8, 2, 128);
        answered("bits left of a group", 3, 1, 5, 1, 0, 1, 3, 2);
        answered("last bit left of a group", 3, 7, 5, 1, 0, 1, 3, 128);
        answered("all of a group", 3, 8, 7, 1, 0, 1, 3, 128);
        answered("bits before the next run", 3, 9, 5, 1, 0, 1, 2, 2, 200);
        answered("EMPTY behind a run", 3, 9, 3, 1, 0, 0, 16, 0);
        answered("run behind a run", 3, 9, 0, 1, 0, 0, 16, 2);
    }

    /** The 20000, which come with each text in its turn. */
    private static void tooMuch() {
        byte[] dictionary = Checks.join(Checks.bytes(1, 250, 1), Checks.filled(250, 1));
        answered("80 of 250", 3, 80, 0, Checks.join(dictionary, Checks.bytes(0, 160, 1)));
        answered("81 of 250", 3, 81, 7, Checks.join(dictionary, Checks.bytes(0, 162, 1)));
        answered("81 of 250, but more", 3, 81, 6, Checks.join(dictionary, Checks.bytes(0, 162, 1, 0)));
        long[] commons = new long[82];
        java.util.Arrays.fill(commons, 1, 82, 250);
        long[] mores = new long[82];
        mores[0] = 250;
        byte[] often = Oracle.code(java.util.Arrays.copyOf(commons, 80));
        byte[] seldom = Oracle.code(java.util.Arrays.copyOf(mores, 80));
        answered("in common 80 times", 2, 80, 0, fronts(often, seldom, 250));
        answered("in common 82 times", 2, 82, 7, fronts(Oracle.code(commons), Oracle.code(mores), 250));
        commons[80] = 0;
        mores[80] = 1;
        answered("one more lacks", 2, 82, 7, fronts(Oracle.code(commons), Oracle.code(mores), 250));
        long[] lengths = new long[100];
        java.util.Arrays.fill(lengths, 255);
        byte[] code = Oracle.code(lengths);
        answered("LENGTHS whose bytes lack before", 1, 100, 1,
                Checks.join(Oracle.varint(code.length), code, Checks.filled(300, 1)));
        byte[] all = Checks.join(Oracle.varint(code.length), code, Checks.filled(20000, 1));
        answered("LENGTHS", 1, 100, 7, all);
        byte[] plain = Checks.join(Checks.bytes(250, 1), Checks.filled(250, 1));
        byte[][] pieces = new byte[81][];
        java.util.Arrays.fill(pieces, plain);
        answered("PLAIN of 80", 0, 80, 6, Checks.join(pieces));
        answered("PLAIN of 81", 0, 81, 7, Checks.join(pieces));
        pieces[80] = Checks.bytes();
        answered("PLAIN of 80, all", 0, 80, 0, Checks.join(pieces));
        pieces[80] = Checks.bytes(1);
        answered("PLAIN of 81 that lack", 0, 81, 7, Checks.join(pieces));
    }
}
