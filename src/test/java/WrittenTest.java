/** One test for each sentence that says how something is WRITTEN at a boundary, by hand-made bytes. */
public final class WrittenTest {
    private static final Checks CHECKS = new Checks();

    public static void main(String[] args) {
        varintOfALength();
        codeOfNoneAndOne();
        blocksOf64();
        partsOfSixteen();
        widthsAsLittleAsCanBe();
        leastBelowZero();
        bitsAreLowestFirst();
        commonWithTheOneBefore();
        dictionaryHasEachOnce();
        dictionaryWidth();
        oneFromEightOn();
        oneOfAllThatAreTheSame();
        groupsUntilEightAreTheSame();
        lastGroupIsFilledUp();
        numberOfTwoBytes();
        nothingOfAnEarlierRow();
        CHECKS.finish();
    }

    private static void add(TextRows rows, int amount, int cell, int times) {
        Checks.hand(rows, Checks.filled(amount, cell));
        if (!rows.add(times)) {
            throw new IllegalStateException("the row has no room");
        }
    }

    private static void written(String what, TextRows rows, int form, byte[]... want) {
        byte[] cells = Checks.join(want);
        int amount = rows.write(form);
        CHECKS.due(what + ": write(" + form + ")", amount, cells.length);
        CHECKS.dueBytes(what + ": output", Checks.outputOf(rows, amount), cells);
        CHECKS.due(what + ": output behind it", rows.output(cells.length), -1);
    }

    /** VARINT: seven bits a byte; all bytes but the last one have 128 more; as few as it takes. */
    private static void varintOfALength() {
        int[][] varints = {{0}, {1}, {127}, {128, 1}, {129, 1}, {254, 1}, {255, 1}};
        int[] lengths = {0, 1, 127, 128, 129, 254, 255};
        for (int k = 0; k < lengths.length; k++) {
            TextRows rows = new TextRows();
            add(rows, lengths[k], 'v', 1);
            written("length " + lengths[k], rows, 0,
                    Checks.bytes(varints[k]), Checks.filled(lengths[k], 'v'));
        }
    }

    /** VARINT m; if m is above 0, the VARINT of the ZIGZAG of the first one. */
    private static void codeOfNoneAndOne() {
        TextRows rows = new TextRows();
        written("m 0", rows, 1, Checks.bytes(1, 0));
        written("m 0 twice", rows, 2, Checks.bytes(1, 0, 1, 0));
        add(rows, 63, 'z', 1);
        written("first one 63", rows, 1, Checks.bytes(2, 1, 126), Checks.filled(63, 'z'));
        rows.clear();
        add(rows, 64, 'z', 1);
        written("first one 64", rows, 1, Checks.bytes(3, 1, 128, 1), Checks.filled(64, 'z'));
        rows.clear();
        add(rows, 255, 'z', 1);
        written("first one 255", rows, 1, Checks.bytes(3, 1, 254, 3), Checks.filled(255, 'z'));
    }

    /** Differences in BLOCKS of 64, the last block of those that are left. */
    private static void blocksOf64() {
        int[] amounts = {2, 64, 65, 66, 127, 128, 129, 130, 1000};
        int[] blocks = {1, 1, 1, 2, 2, 2, 2, 3, 16};
        for (int k = 0; k < amounts.length; k++) {
            TextRows rows = new TextRows();
            rows.add(amounts[k]);
            byte[] code = Checks.join(Oracle.varint(amounts[k]), Checks.bytes(0),
                    Checks.filled(5 * blocks[k], 0));
            written(amounts[k] + " lengths", rows, 1, Oracle.varint(code.length), code);
        }
        // The 65th difference is alone in its block, where it is the LEAST one.
        TextRows rows = new TextRows();
        add(rows, 0, 0, 65);
        add(rows, 3, 'b', 1);
        written("65 differences", rows, 1, Checks.bytes(12, 66, 0, 0, 0, 0, 0, 0, 6, 0, 0, 0, 0),
                Checks.ascii("bbb"));
    }

    /** Its four parts: sixteen differences each; the WIDTH of a part without differences is 0. */
    private static void partsOfSixteen() {
        for (int part = 0; part < 4; part++) {
            for (int place : new int[] {0, 15}) {
                TextRows rows = new TextRows();
                add(rows, 0, 0, 16 * part + place + 1);
                add(rows, 1, 'p', 1);
                byte[] widths = new byte[4];
                byte[] bits = new byte[2];
                boolean isAlone = part == 0 && place == 0;
                widths[part] = (byte) (isAlone ? 0 : 1);
                bits[place / 8] = (byte) (1 << (place % 8));
                byte[] code = Checks.join(Checks.bytes(16 * part + place + 2, 0, isAlone ? 2 : 0),
                        widths, isAlone ? Checks.bytes() : bits);
                written("part " + part + ", place " + place, rows, 1,
                        Checks.bytes(code.length), code, Checks.ascii("p"));
            }
        }
    }

    /** WRITTEN, WIDTHS are as little as can be. */
    private static void widthsAsLittleAsCanBe() {
        int[] lengths = {1, 2, 3, 4, 7, 8, 15, 16, 31, 32, 63, 64, 127, 128, 255};
        int[] widths = {1, 2, 2, 3, 3, 4, 4, 5, 5, 6, 6, 7, 7, 8, 8};
        for (int k = 0; k < lengths.length; k++) {
            TextRows rows = new TextRows();
            add(rows, 0, 0, 2);
            add(rows, lengths[k], 'w', 1);
            int amount = rows.write(1);
            CHECKS.due("width of " + lengths[k], rows.output(4), widths[k]);
            CHECKS.due("bytes of " + lengths[k], amount, 8 + 2 * widths[k] + lengths[k]);
        }
        // Each part has its own.
        TextRows rows = new TextRows();
        add(rows, 0, 0, 17);
        add(rows, 5, 'w', 17);
        written("widths 0, 3, 0", rows, 1, Checks.bytes(13, 34, 0, 0, 0, 3, 0, 0, 5, 0, 0, 0, 0, 0),
                Checks.filled(85, 'w'));
    }

    /** The VARINT of the ZIGZAG of its LEAST difference: - 2 v - 1 if v is below 0. */
    private static void leastBelowZero() {
        TextRows rows = new TextRows();
        add(rows, 1, 'l', 1);
        add(rows, 0, 0, 1);
        written("least -1", rows, 1, Checks.bytes(7, 2, 2, 1, 0, 0, 0, 0), Checks.ascii("l"));
        rows.clear();
        add(rows, 64, 'l', 1);
        add(rows, 0, 0, 1);
        written("least -64", rows, 1, Checks.bytes(8, 2, 128, 1, 127, 0, 0, 0, 0), Checks.filled(64, 'l'));
        rows.clear();
        add(rows, 65, 'l', 1);
        add(rows, 0, 0, 1);
        written("least -65", rows, 1, Checks.bytes(9, 2, 130, 1, 129, 1, 0, 0, 0, 0),
                Checks.filled(65, 'l'));
    }

    /** One behind the other, each with its lowest bit first; bits that are left of them are 0. */
    private static void bitsAreLowestFirst() {
        TextRows rows = new TextRows();
        add(rows, 0, 0, 1);
        add(rows, 255, 'x', 1);
        add(rows, 0, 0, 1);
        add(rows, 255, 'x', 1);
        // Differences 255, -255, 255; less the least: 510, 0, 510, in nine bits each.
        written("nine bits", rows, 1,
                Checks.bytes(26, 4, 0, 0xFD, 3, 9, 0, 0, 0, 0xFE, 0x01, 0xF8, 0x07),
                Checks.filled(14, 0), Checks.filled(510, 'x'));
        rows.clear();
        add(rows, 0, 0, 2);
        add(rows, 1, 'y', 1);
        add(rows, 3, 'y', 1);
        add(rows, 6, 'y', 1);
        // Differences 0, 1, 2, 3: two bits each.
        written("two bits", rows, 1, Checks.bytes(11, 5, 0, 0, 2, 0, 0, 0, 0xE4, 0, 0, 0),
                Checks.filled(10, 'y'));
    }

    /** The first one 0; as many are in common as are the same at the beginning of both. */
    private static void commonWithTheOneBefore() {
        String[][] pairs = {{"", ""}, {"", "a"}, {"a", ""}, {"a", "a"}, {"a", "b"}, {"ab", "a"},
            {"a", "ab"}, {"ab", "ac"}, {"ba", "ca"}, {"a\u00ff", "a\u007f"}};
        int[] commons = {0, 0, 0, 1, 0, 1, 1, 1, 0, 1};
        for (int k = 0; k < pairs.length; k++) {
            TextRows rows = new TextRows();
            Checks.addText(rows, Checks.ascii(pairs[k][0]));
            Checks.addText(rows, Checks.ascii(pairs[k][1]));
            int first = pairs[k][0].length();
            int more = pairs[k][1].length() - commons[k];
            int fall = more - first;
            written(pairs[k][0] + " then " + pairs[k][1], rows, 2,
                    Checks.bytes(7, 2, 0, 2 * commons[k], 0, 0, 0, 0),
                    Checks.bytes(7, 2, 2 * first, fall < 0 ? -2 * fall - 1 : 2 * fall, 0, 0, 0, 0),
                    Checks.ascii(pairs[k][0]), Checks.ascii(pairs[k][1].substring(commons[k])));
        }
        TextRows rows = new TextRows();
        add(rows, 255, 'c', 2);
        written("255 in common", rows, 2, Checks.bytes(8, 2, 0, 254, 3, 0, 0, 0, 0),
                Checks.bytes(9, 2, 254, 3, 253, 3, 0, 0, 0, 0), Checks.filled(255, 'c'));
    }

    /** The dictionary has each text once, in the order in which they come first. */
    private static void dictionaryHasEachOnce() {
        TextRows rows = new TextRows();
        for (String text : new String[] {"b", "", "a", "", "b", "ba", "a"}) {
            Checks.addText(rows, Checks.ascii(text));
        }
        // Numbers 0, 1, 2, 1, 0, 3, 2.
        written("each once", rows, 3, Checks.bytes(4, 1, 'b', 0, 1, 'a', 2, 'b', 'a', 2, 3, 0x64, 0x2C));
        rows.clear();
        for (int k = 0; k < 1000; k++) {
            Checks.addText(rows, Checks.bytes(k, k >> 8));
        }
        CHECKS.due("1000 different", rows.write(3), 2 + 3000 + 1 + 2 + 1250);
        CHECKS.due("d of 1000, low", rows.output(0), 0xE8);
        CHECKS.due("d of 1000, high", rows.output(1), 7);
        CHECKS.due("width of 1000", rows.output(3002), 10);
        CHECKS.due("125 groups, low", rows.output(3003), 0xFB);
        CHECKS.due("125 groups, high", rows.output(3004), 1);
    }

    /** The WIDTH is the least by which d - 1 can be told (0 for 0). */
    private static void dictionaryWidth() {
        int[] sizes = {0, 1, 2, 3, 4, 5, 8, 9, 16, 17, 32, 33, 64, 65, 128, 129, 256, 257, 512, 513, 1000};
        int[] widths = {0, 0, 1, 2, 2, 3, 3, 4, 4, 5, 5, 6, 6, 7, 7, 8, 8, 9, 9, 10, 10};
        for (int s = 0; s < sizes.length; s++) {
            TextRows rows = new TextRows();
            for (int k = 0; k < sizes[s]; k++) {
                Checks.addText(rows, Checks.bytes(k, k >> 8));
            }
            rows.write(3);
            int head = sizes[s] < 128 ? 1 : 2;
            CHECKS.due("width of " + sizes[s], rows.output(head + 3 * sizes[s]), widths[s]);
        }
    }

    /** If it and at least seven behind it are the same, a run of ONE; otherwise GROUPS. */
    private static void oneFromEightOn() {
        int[][] runs = {{3}, {3}, {3}, {16}, {18}, {0xFE, 1}, {0x80, 2}, {0xD0, 0x0F}};
        int[] amounts = {1, 6, 7, 8, 9, 127, 128, 1000};
        for (int k = 0; k < amounts.length; k++) {
            TextRows rows = new TextRows();
            add(rows, 1, 'o', amounts[k]);
            written(amounts[k] + " the same", rows, 3, Checks.bytes(1, 1, 'o', 0), Checks.bytes(runs[k]));
        }
    }

    /** A run of ONE, of all that are the same from there on. */
    private static void oneOfAllThatAreTheSame() {
        TextRows rows = new TextRows();
        add(rows, 1, 'a', 8);
        add(rows, 1, 'b', 9);
        add(rows, 1, 'a', 10);
        byte[] words = Checks.bytes(2, 1, 'a', 1, 'b', 1);
        written("three runs", rows, 3, words, Checks.bytes(16, 0, 18, 1, 20, 0));
        add(rows, 1, 'b', 7);
        written("and seven", rows, 3, words, Checks.bytes(16, 0, 18, 1, 20, 0, 3, 0x7F));
        add(rows, 1, 'a', 1);
        written("and one", rows, 3, words, Checks.bytes(16, 0, 18, 1, 20, 0, 3, 0x7F));
        add(rows, 1, 'a', 1);
        written("and one more", rows, 3, words, Checks.bytes(16, 0, 18, 1, 20, 0, 5, 0x7F, 0));
    }

    /** GROUPS, as many until one begins with a number that is the same as at least seven behind it. */
    private static void groupsUntilEightAreTheSame() {
        byte[] words = Checks.bytes(2, 1, 'a', 1, 'b', 1);
        TextRows rows = new TextRows();
        add(rows, 1, 'a', 7);
        add(rows, 1, 'b', 1 + 7);
        written("seven behind a group", rows, 3, words, Checks.bytes(5, 0x80, 0x7F));
        add(rows, 1, 'b', 1);
        written("eight behind a group", rows, 3, words, Checks.bytes(3, 0x80, 16, 1));
        rows.clear();
        // Eight the same that don't begin a group are no run.
        add(rows, 1, 'a', 4);
        add(rows, 1, 'b', 11);
        add(rows, 1, 'a', 1);
        written("eight within groups", rows, 3, words, Checks.bytes(5, 0xF0, 0x7F));
        rows.clear();
        add(rows, 1, 'a', 4);
        add(rows, 1, 'b', 11);
        add(rows, 1, 'a', 9);
        written("a run behind two groups", rows, 3, words, Checks.bytes(5, 0xF0, 0x7F, 16, 0));
    }

    /** More numbers than there are in its last group; these are 0. */
    private static void lastGroupIsFilledUp() {
        for (int amount = 1; amount < 8; amount++) {
            TextRows rows = new TextRows();
            add(rows, 0, 0, 1);
            add(rows, 1, 'g', amount);
            int bits = (1 << (amount + 1)) - 2;
            written(amount + " behind one", rows, 3, Checks.bytes(2, 0, 1, 'g', 1, 3, bits));
        }
        // Three numbers 0, 1, 2 of two bits; the group has two bytes all the same.
        TextRows rows = new TextRows();
        for (String text : new String[] {"a", "b", "c"}) {
            Checks.addText(rows, Checks.ascii(text));
        }
        written("three of eight", rows, 3, Checks.bytes(3, 1, 'a', 1, 'b', 1, 'c', 2, 3, 0x24, 0));
    }

    /** ONE number in (w + 7) / 8 bytes, the lowest first. */
    private static void numberOfTwoBytes() {
        for (int size : new int[] {256, 257}) {
            TextRows rows = new TextRows();
            for (int k = 0; k < size; k++) {
                Checks.addText(rows, Checks.bytes(k, k >> 8));
            }
            rows.add(17);
            // The 256th number ends a group, the 257th begins the run.
            int amount = rows.write(3);
            int times = size == 256 ? 17 : 18;
            int bytes = size == 256 ? 1 : 2;
            CHECKS.due("run of " + size, rows.output(amount - bytes - 1), 2 * times);
            CHECKS.due("low byte of " + size, rows.output(amount - bytes), (size - 1) & 255);
            if (bytes == 2) {
                CHECKS.due("high byte", rows.output(amount - 1), 1);
            }
        }
    }

    /** The row is WRITTEN, whatever the same object has written or read before. */
    private static void nothingOfAnEarlierRow() {
        TextRows rows = new TextRows();
        for (String text : new String[] {"a", "b", "", "b", "", "b", "", "bbbbb"}) {
            Checks.addText(rows, Checks.ascii(text));
        }
        for (int form = 3; form >= 0; form--) {
            rows.write(form);
        }
        rows.clear();
        for (String text : new String[] {"x", "x", ""}) {
            Checks.addText(rows, Checks.ascii(text));
        }
        written("after another row", rows, 3, Checks.bytes(2, 1, 'x', 0, 1, 3, 4));
        written("after another row", rows, 2, Checks.bytes(11, 3, 0, 1, 2, 0, 0, 0, 2, 0, 0, 0),
                Checks.bytes(9, 3, 2, 1, 1, 0, 0, 0, 2, 0), Checks.ascii("x"));
        written("after another row", rows, 1, Checks.bytes(9, 3, 2, 1, 1, 0, 0, 0, 1, 0), Checks.ascii("xx"));
        written("after another row", rows, 0, Checks.bytes(1, 'x', 1, 'x', 0));
        Checks.hand(rows, Checks.bytes(2, 0, 1, 'y', 1, 3, 1));
        CHECKS.due("read(3, 2)", rows.read(3, 2), 0);
        written("after a read", rows, 3, Checks.bytes(2, 1, 'y', 0, 1, 3, 2));
        rows.clear();
        written("after clear", rows, 3, Checks.bytes(0, 0));
    }
}
