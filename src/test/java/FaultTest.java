import java.util.Arrays;

/** One test for each FAULT's own words and each step of the order in which they are looked for. */
public final class FaultTest {
    private static final Checks CHECKS = new Checks();
    private static final int FINE = 0;
    private static final int CUT = 1;
    private static final int VARINT = 2;
    private static final int EMPTY = 3;
    private static final int MANY = 4;
    private static final int BITS = 5;
    private static final int MORE = 6;
    private static final int RANGE = 7;

    public static void main(String[] args) {
        cutOfEachByte();
        cutOfAllAtOnce();
        varintIsNotAsTold();
        emptyRuns();
        manyInACode();
        manyInADictionary();
        manyInRuns();
        widthsOfParts();
        widthsWithoutDifferences();
        bitsLeftOfAPart();
        widthsOfRuns();
        bitsLeftOfRuns();
        moreBehind();
        rangeOfLengths();
        rangeOfCommon();
        rangeOfNumbers();
        rangeOfAll();
        orderOfPlain();
        orderOfLengths();
        orderOfFront();
        orderOfDictionary();
        oneReadBehindAnother();
        CHECKS.finish();
    }

    /** Reads beside a row that must stay if there is a fault, and go if there is none. */
    private static void answered(String what, int form, int n, int want, byte[]... pieces) {
        TextRows rows = new TextRows();
        Checks.addText(rows, Checks.ascii("keep"));
        Checks.addText(rows, Checks.ascii(""));
        Checks.hand(rows, Checks.join(pieces));
        CHECKS.due(what + ": read(" + form + ", " + n + ")", rows.read(form, n), want);
        if (want == FINE) {
            CHECKS.due(what + ": size()", rows.size(), n);
        } else {
            CHECKS.due(what + ": size()", rows.size(), 2);
            CHECKS.dueBytes(what + ": the row stays", Checks.textOf(rows, 0), Checks.ascii("keep"));
            CHECKS.due(what + ": length(1)", rows.length(1), 0);
        }
    }

    private static byte[] b(int... cells) {
        return Checks.bytes(cells);
    }

    private static byte[] sized(byte[] code) {
        return Checks.join(Oracle.varint(code.length), code);
    }

    private static byte[] sizedCode(long... numbers) {
        return sized(Oracle.code(numbers));
    }

    private static long[] same(int amount, long number) {
        long[] numbers = new long[amount];
        Arrays.fill(numbers, number);
        return numbers;
    }

    /** Bytes lack: whole bytes are cut at each place, and never is there another fault. */
    private static void cutOfEachByte() {
        java.util.List<byte[]> texts = new java.util.ArrayList<>();
        for (int k = 0; k < 90; k++) {
            texts.add(Checks.filled(k % 5 == 0 ? 130 + k % 7 : k % 7, 'a' + k % 3));
        }
        for (int form = 0; form < 4; form++) {
            byte[] whole = Oracle.write(form, texts);
            answered("whole", form, 90, FINE, whole);
            answered("one more", form, 90, MORE, whole, b(0));
            for (int end = 0; end < whole.length; end += end < 300 ? 1 : 37) {
                answered("cut at " + end, form, 90, CUT, Arrays.copyOf(whole, end));
            }
            answered("the last one lacks", form, 90, CUT, Arrays.copyOf(whole, whole.length - 1));
        }
    }

    /** Of a CODE, a text, a part, groups or a number all are to be there at once. */
    private static void cutOfAllAtOnce() {
        answered("CODE, with m above 2000 in it", 1, 0, CUT, b(3, 0xD1, 0x0F));
        answered("CODE, with a wrong VARINT in it", 1, 0, CUT, b(4, 0x80, 0, 0));
        answered("CODE, with bytes behind it", 1, 0, CUT, b(3, 0, 0));
        answered("second CODE, with m above 2000 in it", 2, 0, CUT, b(1, 0, 3, 0xD1, 0x0F));
        answered("CODE as long as there is", 1, 0, MANY, b(2, 0xD1, 0x0F));
        answered("text, all but one", 0, 1, CUT, b(3, 'a', 'b'));
        answered("text, all", 0, 1, FINE, b(3, 'a', 'b', 'c'));
        answered("part, with bits that must be 0", 1, 2, CUT, b(8, 2, 0, 0, 1, 0, 0, 0, 2));
        answered("part, all of it", 1, 2, BITS, b(9, 2, 0, 0, 1, 0, 0, 0, 2, 0));
        answered("part, its other bytes behind the CODE", 1, 2, CUT, b(8, 2, 0, 0, 1, 0, 0, 0, 0, 0));
        answered("groups, with bits that must be 0", 3, 9, CUT, b(1, 0, 2, 5, 0, 0, 255));
        answered("groups, all of them", 3, 9, BITS, b(1, 0, 2, 5, 0, 0, 255, 255));
        answered("number, with bits that must be 0", 3, 1, CUT, b(1, 0, 17, 2, 255, 255));
        answered("number, all of it", 3, 1, BITS, b(1, 0, 17, 2, 255, 255, 255));
        answered("text of a dictionary, all but one", 3, 1, CUT, b(1, 2, 'a'));
    }

    /** As few bytes as it takes, at most ten, the tenth at most 1: wherever a VARINT stands. */
    private static void varintIsNotAsTold() {
        int[][] wrong = {{0x80, 0}, {0x81, 0}, {0xFF, 0}, {0x80, 0x80, 0}, {0xFF, 0xFF, 0xFF, 0},
            {255, 255, 255, 255, 255, 255, 255, 255, 0}, {255, 255, 255, 255, 255, 255, 255, 255, 255, 0},
            {128, 128, 128, 128, 128, 128, 128, 128, 128, 2}, {255, 255, 255, 255, 255, 255, 255, 255, 255, 127},
            {128, 128, 128, 128, 128, 128, 128, 128, 128, 128}, {255, 255, 255, 255, 255, 255, 255, 255, 255, 129},
            {128, 128, 128, 128, 128, 128, 128, 128, 128, 129, 0}};
        for (int[] cells : wrong) {
            byte[] varint = b(cells);
            answered("a length", 0, 1, VARINT, varint);
            answered("a later length", 0, 2, VARINT, b(1, 'a'), varint);
            answered("a CODE's length", 1, 0, VARINT, varint);
            answered("m", 1, 0, VARINT, sized(varint));
            answered("first one", 1, 1, VARINT, sized(Checks.join(b(1), varint)));
            answered("LEAST", 1, 2, VARINT, sized(Checks.join(b(2, 0), varint)));
            answered("LEAST of the second block", 1, 66, VARINT,
                    sized(Checks.join(b(66, 0, 0, 0, 0, 0, 0), varint)));
            answered("second CODE's length", 2, 0, VARINT, b(1, 0), varint);
            answered("second m", 2, 0, VARINT, b(1, 0), sized(varint));
            answered("d", 3, 0, VARINT, varint);
            answered("a length of the dictionary", 3, 1, VARINT, b(1), varint);
            answered("h", 3, 1, VARINT, b(1, 0, 0), varint);
            answered("a later h", 3, 2, VARINT, b(1, 0, 0, 2), varint);
        }
        byte[] largest = b(255, 255, 255, 255, 255, 255, 255, 255, 255, 1);
        answered("largest length", 0, 1, RANGE, largest);
        answered("largest CODE's length", 1, 0, CUT, largest);
        answered("largest m", 1, 0, MANY, sized(largest));
        answered("largest m, and bytes behind", 1, 0, MANY, sized(Checks.join(largest, b(0))));
        answered("least first one", 1, 1, RANGE, sized(Checks.join(b(1), largest)));
        answered("least LEAST", 1, 2, RANGE, sized(Checks.join(b(2, 0), largest, b(0, 0, 0, 0))));
        answered("largest d", 3, 0, MANY, largest);
        answered("largest h", 3, 1, MANY, b(1, 0, 0), largest);
    }

    /** EMPTY, a run of none: h is 0 or 1. */
    private static void emptyRuns() {
        for (int h = 0; h < 2; h++) {
            answered("h " + h, 3, 1, EMPTY, b(1, 0, 0, h));
            answered("h " + h + ", and bytes", 3, 9, EMPTY, b(1, 0, 9, h, 0, 0));
            answered("h " + h + " behind a run", 3, 9, EMPTY, b(1, 0, 0, 16, h));
            answered("h " + h + " where none is missing", 3, 8, MORE, b(1, 0, 0, 16, h));
            answered("h " + h + " of no texts", 3, 0, MORE, b(0, 0, h));
        }
        answered("h 2", 3, 1, FINE, b(1, 0, 0, 2));
        answered("h 3", 3, 1, FINE, b(1, 0, 0, 3));
    }

    /** A CODE's m above 2000; or not n (when it has been read). */
    private static void manyInACode() {
        answered("2001 and no more", 1, 1000, MANY, sized(Oracle.varint(2001)));
        answered("2001", 1, 1000, MANY, sizedCode(same(2001, 0)));
        answered("2000 and no more", 1, 1000, CUT, sized(Oracle.varint(2000)));
        answered("2000, all of it", 1, 1000, MANY, sizedCode(same(2000, 0)));
        answered("2000, and one behind", 1, 1000, MORE, sized(Checks.join(Oracle.code(same(2000, 0)), b(0))));
        answered("1000 of 999", 1, 999, MANY, sizedCode(same(1000, 0)));
        answered("999 of 1000", 1, 1000, MANY, sizedCode(same(999, 0)));
        answered("1000 of 1000", 1, 1000, FINE, sizedCode(same(1000, 0)));
        answered("0 of 1", 1, 1, MANY, sizedCode());
        answered("1 of 0", 1, 0, MANY, sizedCode(0));
        answered("first of FRONT", 2, 1, MANY, sizedCode(), sizedCode(0));
        answered("second of FRONT", 2, 1, MANY, sizedCode(0), sizedCode());
        answered("second of FRONT, more", 2, 1, MANY, sizedCode(0), sizedCode(0, 0));
        answered("both of FRONT", 2, 1, FINE, sizedCode(0), sizedCode(0));
    }

    /** D above n. */
    private static void manyInADictionary() {
        answered("1 of 0", 3, 0, MANY, b(1, 0, 0));
        answered("2 of 1", 3, 1, MANY, b(2, 0, 0, 1, 2, 0));
        answered("1 of 1", 3, 1, FINE, b(1, 0, 0, 2));
        answered("1000 of 1000", 3, 1000, FINE, Oracle.varint(1000), Checks.filled(1000, 0),
                b(0), Oracle.varint(2000));
        answered("1000 of 999", 3, 999, MANY, Oracle.varint(1000), Checks.filled(1000, 0),
                b(0), Oracle.varint(1998));
        answered("2 to the 32 of 1", 3, 1, MANY, Oracle.varint(1L << 32), b(0, 2));
        answered("2 to the 32 and 1 of 1", 3, 1, MANY, Oracle.varint((1L << 32) + 1), b(0, 0, 2));
    }

    /** A run of ONE of more than are missing, or GROUPS of which the last one isn't needed. */
    private static void manyInRuns() {
        for (int n : new int[] {1, 2, 7, 8, 9, 16, 17, 999, 1000}) {
            answered("ONE of all " + n, 3, n, FINE, b(1, 0, 0), Oracle.varint(2L * n));
            answered("ONE of one more than " + n, 3, n, MANY, b(1, 0, 0), Oracle.varint(2L * n + 2));
            int groups = (n + 7) / 8;
            answered("GROUPS of " + n, 3, n, FINE, b(1, 0, 0), Oracle.varint(2L * groups + 1));
            answered("GROUPS of more than " + n, 3, n, MANY, b(1, 0, 0), Oracle.varint(2L * groups + 3));
        }
        answered("ONE behind ONE", 3, 3, FINE, b(1, 0, 0, 2, 4));
        answered("ONE behind ONE, one too often", 3, 3, MANY, b(1, 0, 0, 2, 6));
        answered("GROUPS behind ONE", 3, 9, FINE, b(1, 0, 0, 2, 3));
        answered("GROUPS behind ONE, two", 3, 9, MANY, b(1, 0, 0, 2, 5));
        answered("GROUPS behind ONE, needed", 3, 10, FINE, b(1, 0, 0, 2, 5));
        answered("ONE behind GROUPS", 3, 9, FINE, b(1, 0, 0, 3, 2));
        answered("ONE behind GROUPS, twice", 3, 9, MANY, b(1, 0, 0, 3, 4));
        answered("2 to the 32 times", 3, 1, MANY, b(1, 0, 0), Oracle.varint(1L << 33));
        answered("2 to the 32 and 1 times", 3, 1, MANY, b(1, 0, 0), Oracle.varint((1L << 33) + 2));
        answered("2 to the 32 and 1 GROUPS", 3, 1, MANY, b(1, 0, 0), Oracle.varint((1L << 33) + 3));
        answered("2 to the 61 GROUPS", 3, 1, MANY, b(1, 0, 0), Oracle.varint((1L << 62) + 1));
    }

    /** A WIDTH above 64. */
    private static void widthsOfParts() {
        for (int part = 0; part < 4; part++) {
            for (int width : new int[] {64, 65, 128, 255}) {
                byte[] widths = new byte[4];
                widths[part] = (byte) width;
                byte[] code = Checks.join(b(65, 0, 0), widths, Checks.filled(2 * width, 0));
                answered("part " + part + ", " + width, 1, 65, width == 64 ? FINE : BITS, sized(code));
            }
        }
    }

    /** Not 0 without differences. */
    private static void widthsWithoutDifferences() {
        for (int part = 1; part < 4; part++) {
            byte[] widths = new byte[4];
            widths[part] = 1;
            byte[] without = Checks.join(b(16 * part + 1, 0, 0), widths, b(0, 0));
            answered("none in part " + part, 1, 16 * part + 1, BITS, sized(without));
            byte[] with = Checks.join(b(16 * part + 2, 0, 0), widths, b(0, 0));
            answered("one in part " + part, 1, 16 * part + 2, FINE, sized(with));
        }
        answered("none in a later block", 1, 66, BITS,
                sized(b(66, 0, 0, 0, 0, 0, 0, 0, 0, 1, 0, 0, 0, 0)));
    }

    /** Bits that are left of them are 0. */
    private static void bitsLeftOfAPart() {
        for (int differences = 1; differences <= 16; differences++) {
            for (int bit = 0; bit < 16; bit++) {
                // A difference of 1 in one place, or a bit where there is none.
                byte[] bits = new byte[2];
                bits[bit / 8] = (byte) (1 << (bit % 8));
                byte[] code = Checks.join(b(differences + 1, 0, 0, 1, 0, 0, 0), bits);
                byte[] texts = Checks.filled(Math.max(0, differences - bit), 't');
                answered(differences + " differences, bit " + bit, 1, differences + 1,
                        bit < differences ? FINE : BITS, sized(code), texts);
            }
        }
        byte[] wide = new byte[128];
        wide[8] = 1;
        answered("of 64 bits, first one left", 1, 2, BITS, sized(Checks.join(b(2, 0, 0, 64, 0, 0, 0), wide)));
        wide[8] = 0;
        wide[127] = (byte) 128;
        answered("of 64 bits, last one left", 1, 2, BITS, sized(Checks.join(b(2, 0, 0, 64, 0, 0, 0), wide)));
        answered("of 64 bits, a difference", 1, 17, RANGE, sized(Checks.join(b(17, 0, 0, 64, 0, 0, 0), wide)));
    }

    /** A WIDTH of RUNS above 32. */
    private static void widthsOfRuns() {
        for (int width = 0; width <= 32; width++) {
            answered("ONE of width " + width, 3, 1, FINE, b(1, 0, width, 2), new byte[(width + 7) / 8]);
            answered("ONE of width " + width + ", cut", 3, 1, width == 0 ? FINE : CUT,
                    b(1, 0, width, 2), new byte[Math.max(0, (width + 7) / 8 - 1)]);
            answered("a group of width " + width, 3, 1, FINE, b(1, 0, width, 3), new byte[width]);
            answered("a group of width " + width + ", cut", 3, 1, width == 0 ? FINE : CUT,
                    b(1, 0, width, 3), new byte[Math.max(0, width - 1)]);
        }
        for (int width : new int[] {33, 64, 65, 128, 255}) {
            answered("width " + width, 3, 1, BITS, b(1, 0, width, 2), new byte[32]);
            answered("width " + width + " of none", 3, 0, BITS, b(0, width));
        }
        answered("width 32 of none", 3, 0, FINE, b(0, 32));
    }

    /** Bits that must be 0: above a number's WIDTH, and in the last group. */
    private static void bitsLeftOfRuns() {
        for (int width = 1; width <= 32; width++) {
            int bytes = (width + 7) / 8;
            for (int bit = 0; bit < 8 * bytes; bit++) {
                byte[] number = new byte[bytes];
                number[bit / 8] = (byte) (1 << (bit % 8));
                answered("ONE of width " + width + ", bit " + bit, 3, 1, bit < width ? RANGE : BITS,
                        b(1, 0, width, 2), number);
            }
        }
        for (int width : new int[] {1, 3, 8, 9, 32}) {
            for (int n = 1; n <= 8; n++) {
                for (int bit = 0; bit < 8 * width; bit++) {
                    byte[] group = new byte[width];
                    group[bit / 8] = (byte) (1 << (bit % 8));
                    answered(n + " of width " + width + ", bit " + bit, 3, n, bit < n * width ? RANGE : BITS,
                            b(1, 0, width, 3), group);
                }
            }
        }
    }

    /** Bytes behind the CODE's, or the FORM's end. */
    private static void moreBehind() {
        answered("PLAIN of none", 0, 0, MORE, b(0));
        answered("PLAIN", 0, 1, MORE, b(1, 'a', 0));
        answered("CODE of none", 1, 0, MORE, b(2, 0, 0));
        answered("CODE of one", 1, 1, MORE, b(3, 1, 0, 0));
        answered("CODE of two", 1, 2, MORE, b(8, 2, 0, 0, 0, 0, 0, 0, 0));
        answered("LENGTHS of none", 1, 0, MORE, b(1, 0, 0));
        answered("LENGTHS", 1, 1, MORE, b(2, 1, 2, 'a', 'b'));
        answered("first CODE of FRONT", 2, 0, MORE, b(2, 0, 0, 1, 0));
        answered("second CODE of FRONT", 2, 0, MORE, b(1, 0, 2, 0, 0));
        answered("FRONT of none", 2, 0, MORE, b(1, 0, 1, 0, 0));
        answered("FRONT", 2, 1, MORE, b(2, 1, 0, 2, 1, 2, 'a', 'b'));
        answered("DICTIONARY of none", 3, 0, MORE, b(0, 0, 0));
        answered("DICTIONARY", 3, 1, MORE, b(1, 0, 0, 2, 0));
    }

    /** A length that isn't 0 .. 255. */
    private static void rangeOfLengths() {
        for (int length : new int[] {0, 1, 254, 255, 256, 257, 512}) {
            int want = length <= 255 ? FINE : RANGE;
            byte[] text = Checks.filled(length, 'r');
            answered("PLAIN " + length, 0, 1, want, Oracle.varint(length), text);
            answered("LENGTHS " + length, 1, 1, want, sizedCode(length), text);
            answered("FRONT " + length, 2, 1, want, sizedCode(0), sizedCode(length), text);
            answered("DICTIONARY " + length, 3, 1, want, b(1), Oracle.varint(length), text, b(0, 2));
        }
        for (long length : new long[] {-1, -256, 1L << 31, 1L << 32, (1L << 32) + 1, Long.MIN_VALUE, Long.MAX_VALUE}) {
            answered("PLAIN " + length, 0, 1, RANGE, Oracle.varint(length), b('a'));
            answered("LENGTHS " + length, 1, 1, RANGE, sizedCode(length), b('a'));
            answered("FRONT " + length, 2, 1, RANGE, sizedCode(0), sizedCode(length), b('a'));
            answered("DICTIONARY " + length, 3, 1, RANGE, b(1), Oracle.varint(length), b('a', 0, 2));
        }
    }

    /** In common and more together 0 .. 255, each not below 0, no more in common than there is. */
    private static void rangeOfCommon() {
        answered("first one with 1 in common", 2, 1, RANGE, sizedCode(1), sizedCode(0));
        answered("first one with -1 in common", 2, 1, RANGE, sizedCode(-1), sizedCode(1), b('a'));
        answered("first one with -1 more", 2, 1, RANGE, sizedCode(0), sizedCode(-1));
        answered("1 in common and -1 more", 2, 2, RANGE, sizedCode(0, 1), sizedCode(1, -1), b('a'));
        answered("-1 in common and 1 more", 2, 2, RANGE, sizedCode(0, -1), sizedCode(1, 1), b('a', 'b'));
        answered("all in common", 2, 2, FINE, sizedCode(0, 2), sizedCode(2, 0), b('a', 'b'));
        answered("one too many in common", 2, 2, RANGE, sizedCode(0, 3), sizedCode(2, 0), b('a', 'b'));
        answered("one in common with none", 2, 2, RANGE, sizedCode(0, 1), sizedCode(0, 0));
        answered("with the one before alone", 2, 3, RANGE, sizedCode(0, 0, 2), sizedCode(2, 1, 0),
                b('a', 'b', 'c'));
        byte[] long255 = Checks.filled(255, 'c');
        answered("255 and 0", 2, 2, FINE, sizedCode(0, 255), sizedCode(255, 0), long255);
        answered("254 and 1", 2, 2, FINE, sizedCode(0, 254), sizedCode(255, 1), long255, b('d'));
        answered("255 and 1", 2, 2, RANGE, sizedCode(0, 255), sizedCode(255, 1), long255, b('d'));
        answered("1 and 255", 2, 2, RANGE, sizedCode(0, 1), sizedCode(255, 255), long255, long255);
        answered("0 and 255", 2, 2, FINE, sizedCode(0, 0), sizedCode(255, 255), long255, long255);
        for (long large : new long[] {1L << 31, 1L << 32, Long.MAX_VALUE, Long.MIN_VALUE}) {
            answered(large + " in common", 2, 2, RANGE, sizedCode(0, large), sizedCode(1, 0), b('a'));
            answered(large + " in common, its opposite more", 2, 2, RANGE, sizedCode(0, large),
                    sizedCode(1, -large), b('a'));
            answered(large + " more", 2, 2, RANGE, sizedCode(0, 1), sizedCode(1, large), b('a'));
        }
    }

    /** A number not below d. */
    private static void rangeOfNumbers() {
        answered("0 of none", 3, 1, RANGE, b(0, 0, 2));
        answered("0 of one", 3, 1, FINE, b(1, 0, 1, 2, 0));
        answered("1 of one", 3, 1, RANGE, b(1, 0, 1, 2, 1));
        answered("1 of two", 3, 2, FINE, b(2, 0, 0, 1, 4, 1));
        answered("2 of two", 3, 2, RANGE, b(2, 0, 0, 2, 4, 2));
        answered("the last one too high", 3, 2, RANGE, b(1, 0, 1, 3, 2));
        answered("none too high", 3, 2, FINE, b(1, 0, 1, 3, 0));
        answered("2 to the 31", 3, 1, RANGE, b(1, 0, 32, 2, 0, 0, 0, 128));
        answered("2 to the 32 less 1", 3, 1, RANGE, b(1, 0, 32, 2, 255, 255, 255, 255));
        answered("999 of 1000", 3, 1000, FINE, Oracle.varint(1000), new byte[1000],
                b(10), Oracle.varint(2000), b(0xE7, 3));
        answered("1000 of 1000", 3, 1000, RANGE, Oracle.varint(1000), new byte[1000],
                b(10), Oracle.varint(2000), b(0xE8, 3));
    }

    /** More than 20000 bytes together. */
    private static void rangeOfAll() {
        byte[] text = Checks.filled(200, 's');
        byte[] plain = Checks.join(b(200, 1), text);
        byte[][] many = new byte[100][];
        Arrays.fill(many, plain);
        byte[] hundred = Checks.join(many);
        answered("PLAIN of 20000", 0, 100, FINE, hundred);
        answered("PLAIN of 20000 and none", 0, 101, FINE, hundred, b(0));
        answered("PLAIN of 20001", 0, 101, RANGE, hundred, b(1, 's'));
        byte[] cells = Checks.filled(20000, 's');
        long[] lengths = same(101, 200);
        lengths[100] = 0;
        answered("LENGTHS of 20000", 1, 101, FINE, sizedCode(lengths), cells);
        lengths[100] = 1;
        answered("LENGTHS of 20001", 1, 101, RANGE, sizedCode(lengths), cells, b('s'));
        long[] commons = same(101, 200);
        commons[0] = 0;
        long[] mores = same(101, 0);
        mores[0] = 200;
        commons[100] = 0;
        answered("FRONT of 20000", 2, 101, FINE, sizedCode(commons), sizedCode(mores), text);
        commons[100] = 1;
        answered("FRONT of 20001, in common", 2, 101, RANGE, sizedCode(commons), sizedCode(mores), text);
        commons[100] = 0;
        mores[100] = 1;
        answered("FRONT of 20001, more", 2, 101, RANGE, sizedCode(commons), sizedCode(mores), text, b('s'));
        byte[] words = Checks.join(b(2), plain, b(1, 's', 1));
        answered("DICTIONARY of 20000", 3, 100, FINE, words, Oracle.varint(200), b(0));
        answered("DICTIONARY of 20001", 3, 101, RANGE, words, Oracle.varint(200), b(0), b(2, 1));
        answered("DICTIONARY of 20000 and none", 3, 101, FINE, b(2), plain, b(0, 1),
                Oracle.varint(200), b(0), b(2, 1));
    }

    /** A VARINT's length is looked at before bytes; one text behind the other; then MORE. */
    private static void orderOfPlain() {
        answered("a length before its bytes", 0, 1, RANGE, b(128, 2));
        answered("a text before the next length", 0, 2, CUT, b(2, 'a'));
        answered("a length before the next one", 0, 2, RANGE, b(128, 2, 128, 0));
        answered("all texts before MORE", 0, 2, RANGE, b(0, 128, 2, 0, 0));
        answered("VARINT before MORE", 0, 1, VARINT, b(128, 0, 0));
    }

    /** Of LENGTHS: the VARINT, the CODE, its m, all lengths, the bytes. */
    private static void orderOfLengths() {
        answered("the VARINT before the CODE", 1, 1, VARINT, b(0x82, 0, 0xD1, 0x0F));
        answered("the CODE's m before its first one", 1, 1, MANY, sized(b(0xD1, 0x0F, 0x80, 0)));
        answered("the first one before LEAST", 1, 2, VARINT, sized(b(2, 0x80, 0, 0x80)));
        answered("LEAST before widths", 1, 2, VARINT, sized(b(2, 0, 0x80, 0, 65, 65, 65, 65)));
        answered("a width before the next one", 1, 18, BITS, sized(b(18, 0, 0, 0, 65)));
        answered("widths before parts", 1, 2, BITS, sized(b(2, 0, 0, 1, 0, 0, 1)));
        answered("a part before the next one's bits", 1, 18, CUT, sized(b(18, 0, 0, 64, 1, 0, 0, 0, 2)));
        answered("a block before the next one", 1, 67, BITS, sized(b(67, 0, 0, 65, 0, 0, 0, 0x80, 0)));
        answered("parts before MORE", 1, 2, BITS, sized(b(2, 0, 0, 1, 0, 0, 0, 2, 0, 0)));
        answered("the CODE before its m", 1, 3, BITS, sized(b(2, 0, 0, 1, 0, 0, 0, 2, 0)));
        answered("MORE of the CODE before its m", 1, 2, MORE, sized(b(1, 0, 0)));
        answered("MORE of the CODE before a length", 1, 1, MORE, sized(b(1, 1, 0)));
        answered("its m before a length", 1, 2, MANY, sizedCode(-1));
        answered("its m before the bytes", 1, 2, MANY, sizedCode(5));
        answered("all lengths before the bytes", 1, 3, RANGE, sizedCode(5, 5, 256));
        answered("all lengths before MORE", 1, 1, RANGE, sizedCode(-1), b(0));
        answered("the bytes before MORE", 1, 2, CUT, sizedCode(1, 2), b('a', 'b'));
        long[] lengths = same(79, 255);
        answered("the 20000 with each text", 1, 79, CUT, sizedCode(lengths), b('a'));
        answered("the 20000 before MORE", 1, 79, RANGE, sizedCode(lengths), Checks.filled(21000, 'a'));
    }

    /** Of FRONT: both CODES likewise, then text by text what is in common and more, then its bytes. */
    private static void orderOfFront() {
        answered("first CODE before the second", 2, 1, MORE, sized(b(1, 0, 0)), b(0x80, 0));
        answered("first m before the second VARINT", 2, 1, MANY, sizedCode(0, 0), b(0x80, 0));
        answered("second VARINT before what is in common", 2, 1, VARINT, sizedCode(-1), b(0x80, 0));
        answered("second CODE before what is in common", 2, 1, CUT, sizedCode(-1), b(2, 1));
        answered("second MORE before its m", 2, 1, MORE, sizedCode(0), sized(b(0, 0)));
        answered("second m before what is in common", 2, 1, MANY, sizedCode(-1), sizedCode(0, 0));
        answered("what is in common before bytes", 2, 1, RANGE, sizedCode(1), sizedCode(5));
        answered("what is more before bytes", 2, 1, RANGE, sizedCode(0), sizedCode(256), b('a'));
        answered("bytes before the next text", 2, 2, CUT, sizedCode(0, -1), sizedCode(2, 0), b('a'));
        answered("a text before the next one's bytes", 2, 2, RANGE, sizedCode(0, 2), sizedCode(1, 5), b('a'));
        answered("all texts before MORE", 2, 2, RANGE, sizedCode(0, 2), sizedCode(1, 0), b('a', 'b'));
        answered("bytes before MORE", 2, 1, CUT, sizedCode(0), sizedCode(2), b('a'));
        long[] commons = same(82, 255);
        commons[0] = 0;
        long[] mores = same(82, 0);
        mores[0] = 255;
        byte[] text = Checks.filled(255, 'f');
        answered("the 20000", 2, 82, RANGE, sizedCode(commons), sizedCode(mores), text);
        answered("the 20000 before MORE", 2, 82, RANGE, sizedCode(commons), sizedCode(mores), text, text);
        commons[77] = 254;
        commons[78] = 254;
        mores[77] = 1;
        answered("bytes before the 20000", 2, 82, CUT, sizedCode(commons), sizedCode(mores), text);
        commons[77] = 255;
        commons[78] = 255;
        mores[77] = 0;
        mores[80] = 1;
        commons[80] = 100;
        answered("the 20000 before later bytes", 2, 82, RANGE, sizedCode(commons), sizedCode(mores), text);
    }

    /** Of the DICTIONARY: d, its texts, the WIDTH, the RUNS, MORE, the numbers; the 20000. */
    private static void orderOfDictionary() {
        answered("d before its texts", 3, 1, MANY, b(2, 128, 0));
        answered("a text's length before its bytes", 3, 1, RANGE, b(1, 128, 2));
        answered("a text before the next one", 3, 2, RANGE, b(2, 128, 2, 128, 0));
        answered("texts before the WIDTH", 3, 1, VARINT, b(1, 128, 0, 33));
        answered("the WIDTH before the RUNS", 3, 1, BITS, b(1, 0, 33, 0));
        answered("h before EMPTY", 3, 1, VARINT, b(1, 0, 0, 128, 0));
        answered("EMPTY before bytes", 3, 1, EMPTY, b(1, 0, 8, 0));
        answered("MANY before bytes", 3, 1, MANY, b(1, 0, 8, 4));
        answered("MANY of GROUPS before bytes", 3, 1, MANY, b(1, 0, 8, 5));
        answered("a run before the next one", 3, 2, BITS, b(1, 0, 1, 2, 2, 0));
        answered("RUNS before the numbers", 3, 2, CUT, b(1, 0, 1, 2, 1));
        answered("EMPTY before the numbers", 3, 2, EMPTY, b(1, 0, 1, 2, 1, 0));
        answered("BITS before the numbers", 3, 1, BITS, b(1, 0, 1, 3, 3));
        answered("RUNS before MORE", 3, 1, MANY, b(1, 0, 0, 4, 0));
        answered("MORE before the numbers", 3, 1, MORE, b(1, 0, 1, 2, 1, 0));
        byte[] word = Checks.join(b(1, 255, 1), Checks.filled(255, 'd'));
        answered("the 20000", 3, 79, RANGE, word, b(0), Oracle.varint(158));
        answered("MORE before the 20000", 3, 79, MORE, word, b(0), Oracle.varint(158), b(0));
        answered("RUNS before the 20000", 3, 80, CUT, word, b(0), Oracle.varint(158));
    }

    /** 0, or the FAULT (the row stays): whatever the same object has read before. */
    private static void oneReadBehindAnother() {
        TextRows rows = new TextRows();
        byte[][] whole = {Checks.join(b(1, 'p', 0)), Checks.join(sizedCode(1, 0), b('l')),
            Checks.join(sizedCode(0, 0), sizedCode(1, 0), b('f')), b(2, 1, 'd', 0, 1, 3, 2)};
        byte[][] broken = {b(1, 'x', 1, 'y', 128, 2), Checks.join(sizedCode(1, 1, 256), b('x', 'y')),
            Checks.join(sizedCode(0, 0, 3), sizedCode(1, 1, 0), b('x', 'y')),
            b(3, 1, 'x', 1, 'y', 0, 2, 3, 0x38, 0)};
        String firsts = "plfd";
        for (int form = 0; form < 4; form++) {
            for (int other = 0; other < 4; other++) {
                Checks.hand(rows, whole[form]);
                CHECKS.due("whole: read(" + form + ", 2)", rows.read(form, 2), FINE);
                Checks.hand(rows, broken[other]);
                CHECKS.due("broken: read(" + other + ", 3)", rows.read(other, 3), RANGE);
                CHECKS.due("read before: size()", rows.size(), 2);
                CHECKS.due("read before: length(0)", rows.length(0), 1);
                CHECKS.due("read before: byteOf(0, 0)", rows.byteOf(0, 0), firsts.charAt(form));
                CHECKS.due("read before: length(1)", rows.length(1), 0);
            }
        }
    }
}
