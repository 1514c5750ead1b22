/**
 * Rows of short texts as bytes in four ways: as they are, lengths first, by what each has in common
 * with the one before, by a dictionary; any bytes are read, or refused with the first fault.
 *
 * <p>Every array is made by the constructor and used again, so that no call makes anything.
 */
public final class TextRows {
    public static final int NONE = -1;

    private static final int MOST_TEXTS = 1000;
    private static final int LONGEST_TEXT = 255;
    private static final int MOST_ROW_BYTES = 20000;
    private static final int TAPE_ROOM = 24000;
    private static final int FEED_BYTES = 20;

    private static final int PLAIN = 0;
    private static final int LENGTHS = 1;
    private static final int FRONT = 2;
    private static final int DICTIONARY = 3;

    private static final int FINE = 0;
    private static final int CUT = 1;
    private static final int BAD_VARINT = 2;
    private static final int EMPTY = 3;
    private static final int MANY = 4;
    private static final int BITS = 5;
    private static final int MORE = 6;
    private static final int RANGE = 7;

    private static final int VARINT_BYTES = 10;
    private static final int MOST_CODED = 2000;
    private static final int BLOCK = 64;
    private static final int PARTS = 4;
    private static final int PART = 16;
    private static final int WIDEST_PART = 64;
    private static final int GROUP = 8;
    private static final int WIDEST_RUNS = 32;

    // 1000 lengths differ by at most nine bits: their CODE has less than 1300 bytes.
    private static final int CODE_ROOM = 2000;
    // No row of 20000 bytes is written in as many as this: FRONT adds two CODES, the others less.
    private static final int WRITTEN_ROOM = 24000;
    // A power of two, and twice the texts, so that a free slot is soon found.
    private static final int SLOTS = 2048;

    private final Bytes written = new Bytes(WRITTEN_ROOM);
    private final FormWriter writer;
    private final FormReader reader;
    private Bytes tape = new Bytes(TAPE_ROOM);
    private Bytes input = new Bytes(TAPE_ROOM);
    private Row row = new Row();
    private Row spare = new Row();

    public TextRows() {
        Code first = new Code();
        Code second = new Code();
        Runs runs = new Runs();
        writer = new FormWriter(first, second, runs);
        reader = new FormReader(first, second, runs);
    }

    public boolean feed(int a, int b, int c, int d, int e) {
        if (FEED_BYTES > TAPE_ROOM - tape.size) {
            return false;
        }
        tape.putInt(a);
        tape.putInt(b);
        tape.putInt(c);
        tape.putInt(d);
        tape.putInt(e);
        return true;
    }

    public boolean end(int n) {
        if (n < 0 || n > tape.size) {
            return false;
        }
        Bytes cut = tape;
        tape = input;
        input = cut;
        input.size = n;
        tape.size = 0;
        return true;
    }

    public boolean add(int n) {
        if (n < 1 || n > MOST_TEXTS - row.count || input.size > LONGEST_TEXT) {
            return false;
        }
        if (n * input.size > MOST_ROW_BYTES - row.total()) {
            return false;
        }
        for (int k = 0; k < n; k++) {
            row.append(0, input.cells, 0, input.size);
        }
        return true;
    }

    public void clear() {
        row.count = 0;
    }

    public int write(int form) {
        written.size = 0;
        switch (form) {
            case PLAIN:
                writer.plain(row, written);
                break;
            case LENGTHS:
                writer.lengths(row, written);
                break;
            case FRONT:
                writer.front(row, written);
                break;
            case DICTIONARY:
                writer.dictionary(row, written);
                break;
            default:
                return NONE;
        }
        return written.size;
    }

    public int read(int form, int n) {
        if (n < 0 || n > MOST_TEXTS) {
            return NONE;
        }
        spare.count = 0;
        reader.open(input);
        switch (form) {
            case PLAIN:
                reader.plain(spare, n);
                break;
            case LENGTHS:
                reader.lengths(spare, n);
                break;
            case FRONT:
                reader.front(spare, n);
                break;
            case DICTIONARY:
                reader.dictionary(spare, n);
                break;
            default:
                return NONE;
        }
        if (reader.fault() == FINE) {
            Row read = spare;
            spare = row;
            row = read;
        }
        return reader.fault();
    }

    public boolean turn() {
        if (written.size > TAPE_ROOM) {
            return false;
        }
        input.size = 0;
        input.putAll(written.cells, 0, written.size);
        return true;
    }

    public int size() {
        return row.count;
    }

    public int length(int k) {
        return row.has(k) ? row.lengthOf(k) : NONE;
    }

    public int byteOf(int k, int i) {
        if (!row.has(k) || i < 0 || i >= row.lengthOf(k)) {
            return NONE;
        }
        return row.cells[row.starts[k] + i] & 255;
    }

    public int output(int k) {
        if (k < 0 || k >= written.size) {
            return NONE;
        }
        return written.cells[k] & 255;
    }

    /** How many bits a number without a sign takes. */
    private static int bitsOf(long number) {
        int bits = 0;
        while (bits < 64 && (number >>> bits) != 0) {
            bits++;
        }
        return bits;
    }

    /** Bytes in a room that stays; what has no place in it is left out. */
    private static final class Bytes {
        final byte[] cells;
        int size;

        Bytes(int room) {
            cells = new byte[Math.max(room, 0)];
        }

        void put(int cell) {
            if (size < cells.length) {
                cells[size] = (byte) cell;
                size++;
            }
        }

        void putInt(int number) {
            put(number >>> 24);
            put(number >>> 16);
            put(number >>> 8);
            put(number);
        }

        void putAll(byte[] from, int start, int amount) {
            if (start < 0 || amount < 0 || amount > from.length - start) {
                return;
            }
            if (amount > cells.length - size) {
                return;
            }
            System.arraycopy(from, start, cells, size, amount);
            size += amount;
        }

        void putVarint(long number) {
            long rest = number;
            for (int k = 1; k < VARINT_BYTES && (rest >>> 7) != 0; k++) {
                put((int) (rest & 127) | 128);
                rest = rest >>> 7;
            }
            put((int) rest);
        }

        void putZeros(int amount) {
            for (int k = 0; k < amount && size < cells.length; k++) {
                cells[size] = 0;
                size++;
            }
        }

        /** Sets bits in cells that are 0 there; the number has none above its width. */
        void setBits(int base, int bit, int width, long number) {
            for (int k = bit >> 3; 8 * k < bit + width; k++) {
                int index = base + k;
                if (index < 0 || index >= size) {
                    return;
                }
                int shift = 8 * k - bit;
                long part = shift < 0 ? number << -shift : number >>> shift;
                cells[index] = (byte) (cells[index] | part);
            }
        }
    }

    /** The texts, one behind the other in one array. */
    private static final class Row {
        final byte[] cells = new byte[MOST_ROW_BYTES];
        // Where each text begins and, at the count, where the next one will; the first one is 0.
        final int[] starts = new int[MOST_TEXTS + 1];
        int count;

        boolean has(int k) {
            return k >= 0 && k < count;
        }

        int total() {
            return starts[count];
        }

        int lengthOf(int k) {
            return has(k) ? starts[k + 1] - starts[k] : 0;
        }

        boolean holdsMore(int amount) {
            return count < MOST_TEXTS && amount <= MOST_ROW_BYTES - total();
        }

        /** A text of what it has in common with the last one, and more bytes from elsewhere. */
        void append(int common, byte[] from, int start, int more) {
            if (common < 0 || common > lengthOf(count - 1) || !holdsMore(common + more)) {
                return;
            }
            if (start < 0 || more < 0 || more > from.length - start) {
                return;
            }
            int at = total();
            if (common > 0) {
                System.arraycopy(cells, starts[count - 1], cells, at, common);
            }
            System.arraycopy(from, start, cells, at + common, more);
            count++;
            starts[count] = at + common + more;
        }

        int commonWithLast(int k) {
            if (!has(k) || k == 0) {
                return 0;
            }
            int most = Math.min(lengthOf(k - 1), lengthOf(k));
            int common = 0;
            while (common < most && cells[starts[k - 1] + common] == cells[starts[k] + common]) {
                common++;
            }
            return common;
        }

        boolean areSame(int k, int other) {
            if (!has(k) || !has(other) || lengthOf(k) != lengthOf(other)) {
                return false;
            }
            int amount = lengthOf(k);
            for (int i = 0; i < amount; i++) {
                if (cells[starts[k] + i] != cells[starts[other] + i]) {
                    return false;
                }
            }
            return true;
        }
    }

    /** A place in bytes that are read, up to a limit, and the first fault. */
    private static final class Scan {
        byte[] cells = new byte[0];
        int at;
        int limit;
        int fault;

        void open(Bytes bytes) {
            cells = bytes.cells;
            at = 0;
            limit = bytes.size;
            fault = FINE;
        }

        boolean failed() {
            return fault != FINE;
        }

        void fail(int found) {
            if (fault == FINE) {
                fault = found;
            }
        }

        /** Whether so many bytes are there, or a fault; below 0 is an amount above all longs. */
        boolean holds(long amount) {
            if (fault == FINE && (amount < 0 || amount > limit - at)) {
                fault = CUT;
            }
            return fault == FINE;
        }

        int nextByte() {
            if (at < 0 || at >= limit || at >= cells.length) {
                fail(CUT);
                return 0;
            }
            int cell = cells[at] & 255;
            at++;
            return cell;
        }

        long varint() {
            long number = 0;
            for (int k = 0; k < VARINT_BYTES && !failed(); k++) {
                int cell = nextByte();
                number |= (long) (cell & 127) << (7 * k);
                boolean tooLarge = k == VARINT_BYTES - 1 && cell > 1;
                boolean tooLong = k > 0 && cell == 0;
                if (tooLarge || tooLong) {
                    fail(BAD_VARINT);
                }
                if (cell < 128) {
                    return number;
                }
            }
            return number;
        }

        /** A number of so many bits, from a bit behind this place on. */
        long bitsAt(int bit, int width) {
            long number = 0;
            for (int k = bit >> 3; 8 * k < bit + width; k++) {
                int index = at + k;
                if (index < 0 || index >= cells.length) {
                    return 0;
                }
                int shift = 8 * k - bit;
                long cell = cells[index] & 255;
                number |= shift < 0 ? cell >>> -shift : cell << shift;
            }
            return width < 64 ? number & ((1L << width) - 1) : number;
        }

        void expectEnd() {
            if (at < limit) {
                fail(MORE);
            }
        }
    }

    /** The CODE of a row of longs. */
    private static final class Code {
        final long[] numbers = new long[MOST_CODED];
        private final int[] widths = new int[PARTS];
        int count;

        void writeOn(Bytes out) {
            out.putVarint(count);
            if (count > 0) {
                out.putVarint(zigzag(numbers[0]));
            }
            for (int from = 1; from < count; from += BLOCK) {
                writeBlock(out, from, Math.min(count, from + BLOCK));
            }
        }

        private void writeBlock(Bytes out, int from, int end) {
            long least = leastDifference(from, end);
            out.putVarint(zigzag(least));
            for (int part = 0; part < PARTS; part++) {
                int start = from + part * PART;
                widths[part] = widthOf(start, Math.min(end, start + PART), least);
                out.put(widths[part]);
            }
            for (int part = 0; part < PARTS; part++) {
                int start = from + part * PART;
                writePart(out, start, Math.min(end, start + PART), widths[part], least);
            }
        }

        private long leastDifference(int from, int end) {
            long least = Long.MAX_VALUE;
            for (int k = from; k < end; k++) {
                least = Math.min(least, numbers[k] - numbers[k - 1]);
            }
            return least;
        }

        private int widthOf(int start, int end, long least) {
            long all = 0;
            for (int k = start; k < end; k++) {
                all |= numbers[k] - numbers[k - 1] - least;
            }
            return bitsOf(all);
        }

        /** A part without differences has the width 0, and so no bytes. */
        private void writePart(Bytes out, int start, int end, int width, long least) {
            int base = out.size;
            out.putZeros(2 * width);
            for (int k = start; k < end; k++) {
                long number = numbers[k] - numbers[k - 1] - least;
                out.setBits(base, (k - start) * width, width, number);
            }
        }

        /** Reads all that the scan has up to its limit. */
        void readFrom(Scan scan) {
            count = 0;
            long amount = scan.varint();
            if (amount < 0 || amount > MOST_CODED) {
                scan.fail(MANY);
            }
            if (scan.failed()) {
                return;
            }
            int end = (int) amount;
            if (end > 0) {
                numbers[0] = unzigzag(scan.varint());
            }
            for (int from = 1; from < end && !scan.failed(); from += BLOCK) {
                readBlock(scan, from, Math.min(end, from + BLOCK));
            }
            scan.expectEnd();
            count = end;
        }

        private void readBlock(Scan scan, int from, int end) {
            long least = unzigzag(scan.varint());
            for (int part = 0; part < PARTS && !scan.failed(); part++) {
                int width = scan.nextByte();
                boolean isWithout = from + part * PART >= end;
                if (width > WIDEST_PART || (isWithout && width != 0)) {
                    scan.fail(BITS);
                }
                widths[part] = width;
            }
            for (int part = 0; part < PARTS && !scan.failed(); part++) {
                int start = from + part * PART;
                readPart(scan, start, Math.min(end, start + PART), widths[part], least);
            }
        }

        private void readPart(Scan scan, int start, int end, int width, long least) {
            if (!scan.holds(2 * width)) {
                return;
            }
            for (int k = start; k < end; k++) {
                numbers[k] = numbers[k - 1] + least + scan.bitsAt((k - start) * width, width);
            }
            for (int k = Math.max(start, end); k < start + PART; k++) {
                if (scan.bitsAt((k - start) * width, width) != 0) {
                    scan.fail(BITS);
                }
            }
            scan.at += 2 * width;
        }

        private static long zigzag(long number) {
            return (number << 1) ^ (number >> 63);
        }

        private static long unzigzag(long number) {
            return (number >>> 1) ^ -(number & 1);
        }
    }

    /** RUNS of numbers of one width. */
    private static final class Runs {
        final long[] numbers = new long[MOST_TEXTS];
        int count;

        void writeOn(Bytes out, int width) {
            int at = 0;
            for (int run = 0; run < count && at < count; run++) {
                int same = sameFrom(at);
                if (same >= GROUP) {
                    writeOne(out, at, same, width);
                    at += same;
                } else {
                    int groups = groupsFrom(at);
                    writeGroups(out, at, groups, width);
                    at += groups * GROUP;
                }
            }
        }

        /** How many are the same from there on: at least one. */
        private int sameFrom(int at) {
            int same = 1;
            while (at + same < count && numbers[at + same] == numbers[at]) {
                same++;
            }
            return same;
        }

        /** How many groups come before the next run of ONE: at least one. */
        private int groupsFrom(int at) {
            int groups = 1;
            while (at + groups * GROUP < count && sameFrom(at + groups * GROUP) < GROUP) {
                groups++;
            }
            return groups;
        }

        private void writeOne(Bytes out, int at, int same, int width) {
            out.putVarint(2L * same);
            int base = out.size;
            out.putZeros((width + 7) / 8);
            out.setBits(base, 0, width, numbers[at]);
        }

        private void writeGroups(Bytes out, int at, int groups, int width) {
            out.putVarint(2L * groups + 1);
            int base = out.size;
            out.putZeros(groups * width);
            int end = Math.min(count, at + groups * GROUP);
            for (int k = at; k < end; k++) {
                out.setBits(base, (k - at) * width, width, numbers[k]);
            }
        }

        void readFrom(Scan scan, int amount, int width) {
            count = 0;
            // Each run has at least one number or is a fault: there are never more runs than numbers.
            for (int run = 0; run < amount && count < amount && !scan.failed(); run++) {
                readRun(scan, amount, width);
            }
        }

        private void readRun(Scan scan, int amount, int width) {
            long head = scan.varint();
            long times = head >>> 1;
            int missing = Math.min(amount, MOST_TEXTS) - count;
            boolean isOne = (head & 1) == 0;
            int most = isOne ? missing : (missing + GROUP - 1) / GROUP;
            if (times == 0) {
                scan.fail(EMPTY);
            } else if (times > most) {
                scan.fail(MANY);
            }
            if (scan.failed()) {
                return;
            }
            if (isOne) {
                readOne(scan, (int) times, width);
            } else {
                readGroups(scan, (int) times, missing, width);
            }
        }

        private void readOne(Scan scan, int times, int width) {
            int bytes = (width + 7) / 8;
            if (!scan.holds(bytes)) {
                return;
            }
            if (scan.bitsAt(width, bytes * 8 - width) != 0) {
                scan.fail(BITS);
            }
            long number = scan.bitsAt(0, width);
            for (int k = 0; k < times; k++) {
                numbers[count] = number;
                count++;
            }
            scan.at += bytes;
        }

        private void readGroups(Scan scan, int groups, int missing, int width) {
            if (!scan.holds(groups * width)) {
                return;
            }
            for (int k = 0; k < groups * GROUP; k++) {
                long number = scan.bitsAt(k * width, width);
                if (k < missing) {
                    numbers[count] = number;
                    count++;
                } else if (number != 0) {
                    scan.fail(BITS);
                }
            }
            scan.at += groups * width;
        }
    }

    /** Numbers the texts of a row in the order in which they come first. */
    private static final class Lexicon {
        // A number of the lexicon and one more, or 0 where a slot is free.
        private final int[] slots = new int[SLOTS];
        final int[] firsts = new int[MOST_TEXTS];
        int count;

        void empty() {
            count = 0;
            for (int k = 0; k < SLOTS; k++) {
                slots[k] = 0;
            }
        }

        int numberOf(Row row, int k) {
            int slot = slotOf(row, k);
            for (int tries = 0; tries < SLOTS; tries++) {
                int found = slots[slot] - 1;
                if (found < 0) {
                    return enter(slot, k);
                }
                if (row.areSame(firsts[found], k)) {
                    return found;
                }
                slot = (slot + 1) & (SLOTS - 1);
            }
            return 0;
        }

        private int enter(int slot, int k) {
            if (count >= MOST_TEXTS) {
                return 0;
            }
            firsts[count] = k;
            count++;
            slots[slot] = count;
            return count - 1;
        }

        private static int slotOf(Row row, int k) {
            int mixed = 0;
            int amount = row.lengthOf(k);
            for (int i = 0; i < amount; i++) {
                mixed = mixed * 31 + row.cells[row.starts[k] + i];
            }
            mixed *= 0x9E3779B1;
            return (mixed >>> 16) & (SLOTS - 1);
        }
    }

    /** Writes a row in each of the FORMS, behind what there is. */
    private static final class FormWriter {
        private final Code first;
        private final Code second;
        private final Runs runs;
        private final Lexicon lexicon = new Lexicon();
        private final Bytes coded = new Bytes(CODE_ROOM);

        FormWriter(Code first, Code second, Runs runs) {
            this.first = first;
            this.second = second;
            this.runs = runs;
        }

        void plain(Row row, Bytes out) {
            for (int k = 0; k < row.count; k++) {
                putText(row, k, out);
            }
        }

        void lengths(Row row, Bytes out) {
            first.count = row.count;
            for (int k = 0; k < row.count; k++) {
                first.numbers[k] = row.lengthOf(k);
            }
            putCode(first, out);
            out.putAll(row.cells, 0, row.total());
        }

        void front(Row row, Bytes out) {
            first.count = row.count;
            second.count = row.count;
            for (int k = 0; k < row.count; k++) {
                int common = row.commonWithLast(k);
                first.numbers[k] = common;
                second.numbers[k] = row.lengthOf(k) - common;
            }
            putCode(first, out);
            putCode(second, out);
            for (int k = 0; k < row.count; k++) {
                int common = (int) first.numbers[k];
                out.putAll(row.cells, row.starts[k] + common, (int) second.numbers[k]);
            }
        }

        void dictionary(Row row, Bytes out) {
            lexicon.empty();
            runs.count = row.count;
            for (int k = 0; k < row.count; k++) {
                runs.numbers[k] = lexicon.numberOf(row, k);
            }
            out.putVarint(lexicon.count);
            for (int k = 0; k < lexicon.count; k++) {
                putText(row, lexicon.firsts[k], out);
            }
            int width = bitsOf(Math.max(lexicon.count - 1, 0));
            out.put(width);
            runs.writeOn(out, width);
        }

        private void putText(Row row, int k, Bytes out) {
            out.putVarint(row.lengthOf(k));
            out.putAll(row.cells, row.starts[k], row.lengthOf(k));
        }

        private void putCode(Code code, Bytes out) {
            coded.size = 0;
            code.writeOn(coded);
            out.putVarint(coded.size);
            out.putAll(coded.cells, 0, coded.size);
        }
    }

    /** Reads each of the FORMS into an empty row, up to the first fault. */
    private static final class FormReader {
        private final Scan scan = new Scan();
        private final Code first;
        private final Code second;
        private final Runs runs;
        // Where the dictionary's texts stand in the INPUT.
        private final int[] starts = new int[MOST_TEXTS];
        private final int[] lengths = new int[MOST_TEXTS];

        FormReader(Code first, Code second, Runs runs) {
            this.first = first;
            this.second = second;
            this.runs = runs;
        }

        void open(Bytes input) {
            scan.open(input);
        }

        int fault() {
            return scan.fault;
        }

        void plain(Row row, int n) {
            for (int k = 0; k < n && !scan.failed(); k++) {
                int amount = textLength();
                takeText(row, 0, amount);
            }
            scan.expectEnd();
        }

        void lengths(Row row, int n) {
            takeCode(first, n);
            for (int k = 0; k < n && !scan.failed(); k++) {
                if (!isLength(first.numbers[k])) {
                    scan.fail(RANGE);
                }
            }
            for (int k = 0; k < n && !scan.failed(); k++) {
                takeText(row, 0, (int) first.numbers[k]);
            }
            scan.expectEnd();
        }

        void front(Row row, int n) {
            takeCode(first, n);
            if (!scan.failed()) {
                takeCode(second, n);
            }
            for (int k = 0; k < n && !scan.failed(); k++) {
                long common = first.numbers[k];
                long more = second.numbers[k];
                if (isLength(common) && isLength(more) && isLength(common + more)
                        && common <= row.lengthOf(k - 1)) {
                    takeText(row, (int) common, (int) more);
                } else {
                    scan.fail(RANGE);
                }
            }
            scan.expectEnd();
        }

        void dictionary(Row row, int n) {
            long amount = scan.varint();
            if (amount < 0 || amount > n) {
                scan.fail(MANY);
            }
            for (int k = 0; k < amount && !scan.failed(); k++) {
                enterText(k);
            }
            int width = scan.nextByte();
            if (width > WIDEST_RUNS) {
                scan.fail(BITS);
            }
            runs.readFrom(scan, n, width);
            scan.expectEnd();
            for (int k = 0; k < n && !scan.failed(); k++) {
                copyText(row, runs.numbers[k], amount);
            }
        }

        private static boolean isLength(long amount) {
            return amount >= 0 && amount <= LONGEST_TEXT;
        }

        private int textLength() {
            long amount = scan.varint();
            if (!isLength(amount)) {
                scan.fail(RANGE);
            }
            return scan.failed() ? 0 : (int) amount;
        }

        /** A CODE behind its length, which bounds it, of so many numbers. */
        private void takeCode(Code code, int n) {
            long amount = scan.varint();
            if (!scan.holds(amount)) {
                return;
            }
            int whole = scan.limit;
            scan.limit = scan.at + (int) amount;
            code.readFrom(scan);
            scan.limit = whole;
            if (code.count != n) {
                scan.fail(MANY);
            }
        }

        /** The lengths tell that a row is too large before its bytes are looked for. */
        private void takeText(Row row, int common, int more) {
            if (!row.holdsMore(common + more)) {
                scan.fail(RANGE);
            }
            if (!scan.holds(more)) {
                return;
            }
            row.append(common, scan.cells, scan.at, more);
            scan.at += more;
        }

        private void enterText(int k) {
            int amount = textLength();
            if (!scan.holds(amount)) {
                return;
            }
            starts[k] = scan.at;
            lengths[k] = amount;
            scan.at += amount;
        }

        private void copyText(Row row, long number, long amount) {
            if (number < 0 || number >= amount) {
                scan.fail(RANGE);
                return;
            }
            int k = (int) number;
            if (!row.holdsMore(lengths[k])) {
                scan.fail(RANGE);
                return;
            }
            row.append(0, scan.cells, starts[k], lengths[k]);
        }
    }
}
