import java.io.ByteArrayOutputStream;

/** What the tests share: answers that are due, and ways to hand bytes to an object. */
final class Checks {
    private static final int MOST_TOLD = 40;
    private int wrong = 0;
    private int made = 0;

    void due(String call, long got, long want) {
        made++;
        if (got != want) {
            tell(call + " answered " + got + ", due is " + want);
        }
    }

    void due(String call, boolean got, boolean want) {
        due(call, got ? 1 : 0, want ? 1 : 0);
    }

    /** One fault can spoil thousands of answers: the first ones are enough to find it. */
    private void tell(String message) {
        wrong++;
        if (wrong <= MOST_TOLD) {
            System.out.println(message);
        }
    }

    void finish() {
        System.out.println(made + " answers, " + wrong + " not as due");
        if (wrong != 0) {
            System.exit(1);
        }
    }

    static byte[] bytes(int... cells) {
        byte[] made = new byte[cells.length];
        for (int k = 0; k < cells.length; k++) {
            made[k] = (byte) cells[k];
        }
        return made;
    }

    static byte[] ascii(String text) {
        return text.getBytes(java.nio.charset.StandardCharsets.ISO_8859_1);
    }

    static byte[] filled(int amount, int cell) {
        byte[] made = new byte[amount];
        java.util.Arrays.fill(made, (byte) cell);
        return made;
    }

    static byte[] join(byte[]... pieces) {
        ByteArrayOutputStream all = new ByteArrayOutputStream();
        for (byte[] piece : pieces) {
            all.write(piece, 0, piece.length);
        }
        return all.toByteArray();
    }

    /** Makes these bytes the INPUT by feed and end. */
    static void hand(TextRows rows, byte[] cells) {
        for (int from = 0; from < cells.length; from += 20) {
            int[] five = new int[5];
            for (int k = 0; k < 20; k++) {
                int cell = from + k < cells.length ? cells[from + k] & 255 : 0;
                five[k / 4] |= cell << (24 - 8 * (k % 4));
            }
            if (!rows.feed(five[0], five[1], five[2], five[3], five[4])) {
                throw new IllegalStateException("no room on the tape");
            }
        }
        if (!rows.end(cells.length)) {
            throw new IllegalStateException("the tape has not so many");
        }
    }

    static void addText(TextRows rows, byte[] text) {
        hand(rows, text);
        if (!rows.add(1)) {
            throw new IllegalStateException("the row has no room");
        }
    }

    static byte[] outputOf(TextRows rows, int amount) {
        byte[] cells = new byte[Math.max(amount, 0)];
        for (int k = 0; k < cells.length; k++) {
            cells[k] = (byte) rows.output(k);
        }
        return cells;
    }

    static byte[] textOf(TextRows rows, int k) {
        byte[] cells = new byte[Math.max(rows.length(k), 0)];
        for (int i = 0; i < cells.length; i++) {
            cells[i] = (byte) rows.byteOf(k, i);
        }
        return cells;
    }

    void dueBytes(String call, byte[] got, byte[] want) {
        made++;
        if (!java.util.Arrays.equals(got, want)) {
            tell(call + " gave " + shown(got) + ", due is " + shown(want));
        }
    }

    private static String shown(byte[] cells) {
        StringBuilder text = new StringBuilder("[" + cells.length + ":");
        for (int k = 0; k < Math.min(cells.length, 60); k++) {
            text.append(String.format(" %02x", cells[k] & 255));
        }
        return text.append("]").toString();
    }
}
