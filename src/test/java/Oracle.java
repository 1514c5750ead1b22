import java.io.ByteArrayOutputStream;
import java.math.BigInteger;
import java.util.ArrayList;
import java.util.Arrays;
import java.util.List;

/** The document's FORMS once more, slow and by other means: texts of bits, BigIntegers, exceptions. */
final class Oracle {
    static final int CUT = 1;
    static final int VARINT = 2;
    static final int EMPTY = 3;
    static final int MANY = 4;
    static final int BITS = 5;
    static final int MORE = 6;
    static final int RANGE = 7;

    private static final BigInteger WRAP = BigInteger.ONE.shiftLeft(64);

    private Oracle() {
    }

    static byte[] write(int form, List<byte[]> texts) {
        ByteArrayOutputStream out = new ByteArrayOutputStream();
        switch (form) {
            case 0:
                for (byte[] text : texts) {
                    plain(out, text);
                }
                break;
            case 1:
                sized(out, code(lengths(texts)));
                for (byte[] text : texts) {
                    out.writeBytes(text);
                }
                break;
            case 2:
                front(out, texts);
                break;
            default:
                dictionary(out, texts);
        }
        return out.toByteArray();
    }

    private static long[] lengths(List<byte[]> texts) {
        return texts.stream().mapToLong(text -> text.length).toArray();
    }

    private static void plain(ByteArrayOutputStream out, byte[] text) {
        out.writeBytes(varint(text.length));
        out.writeBytes(text);
    }

    private static void sized(ByteArrayOutputStream out, byte[] code) {
        out.writeBytes(varint(code.length));
        out.writeBytes(code);
    }

    private static void front(ByteArrayOutputStream out, List<byte[]> texts) {
        long[] commons = new long[texts.size()];
        long[] mores = new long[texts.size()];
        ByteArrayOutputStream rest = new ByteArrayOutputStream();
        byte[] last = new byte[0];
        for (int k = 0; k < commons.length; k++) {
            byte[] text = texts.get(k);
            int differs = Arrays.mismatch(last, text);
            int common = differs < 0 ? text.length : differs;
            commons[k] = common;
            mores[k] = text.length - common;
            rest.write(text, common, text.length - common);
            last = text;
        }
        sized(out, code(commons));
        sized(out, code(mores));
        out.writeBytes(rest.toByteArray());
    }

    private static void dictionary(ByteArrayOutputStream out, List<byte[]> texts) {
        List<byte[]> words = new ArrayList<>();
        long[] numbers = new long[texts.size()];
        for (int k = 0; k < numbers.length; k++) {
            int found = -1;
            for (int w = 0; w < words.size() && found < 0; w++) {
                found = Arrays.equals(words.get(w), texts.get(k)) ? w : -1;
            }
            if (found < 0) {
                found = words.size();
                words.add(texts.get(k));
            }
            numbers[k] = found;
        }
        out.writeBytes(varint(words.size()));
        for (byte[] word : words) {
            plain(out, word);
        }
        int width = BigInteger.valueOf(Math.max(0, words.size() - 1)).bitLength();
        out.write(width);
        out.writeBytes(runs(numbers, width));
    }

    static byte[] varint(long number) {
        BigInteger rest = unsigned(number);
        BigInteger base = BigInteger.valueOf(128);
        ByteArrayOutputStream out = new ByteArrayOutputStream();
        while (rest.compareTo(base) >= 0) {
            out.write(rest.mod(base).intValue() + 128);
            rest = rest.divide(base);
        }
        out.write(rest.intValue());
        return out.toByteArray();
    }

    private static BigInteger unsigned(long number) {
        return BigInteger.valueOf(number).mod(WRAP);
    }

    static byte[] zigzag(long number) {
        BigInteger big = BigInteger.valueOf(number);
        BigInteger twice = big.add(big);
        BigInteger folded = number < 0 ? twice.negate().subtract(BigInteger.ONE) : twice;
        return varint(folded.longValue());
    }

    static byte[] code(long[] numbers) {
        ByteArrayOutputStream out = new ByteArrayOutputStream();
        out.writeBytes(varint(numbers.length));
        if (numbers.length > 0) {
            out.writeBytes(zigzag(numbers[0]));
        }
        for (int from = 1; from < numbers.length; from += 64) {
            int amount = Math.min(64, numbers.length - from);
            long[] differences = new long[amount];
            for (int k = 0; k < amount; k++) {
                differences[k] = numbers[from + k] - numbers[from + k - 1];
            }
            block(out, differences);
        }
        return out.toByteArray();
    }

    private static void block(ByteArrayOutputStream out, long[] differences) {
        long least = Arrays.stream(differences).min().getAsLong();
        int[] widths = new int[4];
        for (int k = 0; k < differences.length; k++) {
            int bits = unsigned(differences[k] - least).bitLength();
            widths[k / 16] = Math.max(widths[k / 16], bits);
        }
        out.writeBytes(zigzag(least));
        for (int width : widths) {
            out.write(width);
        }
        StringBuilder[] bits = new StringBuilder[4];
        for (int part = 0; part < 4; part++) {
            bits[part] = new StringBuilder();
        }
        for (int k = 0; k < differences.length; k++) {
            bits[k / 16].append(lowFirst(differences[k] - least, widths[k / 16]));
        }
        for (int part = 0; part < 4; part++) {
            out.writeBytes(packed(bits[part], 2 * widths[part]));
        }
    }

    /** The lowest bits of a number as a text of 0 and 1, the lowest one first. */
    static String lowFirst(long number, int width) {
        StringBuilder text = new StringBuilder();
        for (int bit = 0; bit < width; bit++) {
            text.append(unsigned(number).testBit(bit) ? '1' : '0');
        }
        return text.toString();
    }

    static byte[] packed(CharSequence bits, int amount) {
        byte[] cells = new byte[amount];
        for (int bit = 0; bit < bits.length(); bit++) {
            if (bits.charAt(bit) == '1') {
                cells[bit / 8] += (byte) (1 << (bit % 8));
            }
        }
        return cells;
    }

    static byte[] runs(long[] numbers, int width) {
        ByteArrayOutputStream out = new ByteArrayOutputStream();
        int at = 0;
        while (at < numbers.length) {
            if (eightSame(numbers, at)) {
                int end = at;
                while (end < numbers.length && numbers[end] == numbers[at]) {
                    end++;
                }
                out.writeBytes(varint(2L * (end - at)));
                out.writeBytes(packed(lowFirst(numbers[at], width), (width + 7) / 8));
                at = end;
            } else {
                StringBuilder bits = new StringBuilder();
                int groups = 0;
                do {
                    for (int k = 0; k < 8; k++) {
                        bits.append(lowFirst(at + k < numbers.length ? numbers[at + k] : 0, width));
                    }
                    at += 8;
                    groups++;
                } while (at < numbers.length && !eightSame(numbers, at));
                out.writeBytes(varint(2L * groups + 1));
                out.writeBytes(packed(bits, groups * width));
            }
        }
        return out.toByteArray();
    }

    private static boolean eightSame(long[] numbers, int at) {
        if (at + 8 > numbers.length) {
            return false;
        }
        for (int k = 1; k < 8; k++) {
            if (numbers[at + k] != numbers[at]) {
                return false;
            }
        }
        return true;
    }

    /** What a read answers: a fault, or 0 and the texts. */
    static final class Answer {
        int fault;
        List<byte[]> texts = new ArrayList<>();
    }

    private static final class Fault extends Exception {
        private static final long serialVersionUID = 1L;
        final int number;

        Fault(int number) {
            this.number = number;
        }
    }

    static Answer read(int form, byte[] cells, int n) {
        Answer answer = new Answer();
        try {
            answer.texts = new Source(cells).form(form, n);
        } catch (Fault fault) {
            answer.fault = fault.number;
        }
        return answer;
    }

    private static final class Source {
        private final byte[] cells;
        private int at = 0;
        private int total = 0;

        Source(byte[] cells) {
            this.cells = cells;
        }

        private static void refuseIf(boolean wrong, int number) throws Fault {
            if (wrong) {
                throw new Fault(number);
            }
        }

        List<byte[]> form(int form, int n) throws Fault {
            List<byte[]> texts = new ArrayList<>();
            switch (form) {
                case 0:
                    for (int k = 0; k < n; k++) {
                        int length = plainLength();
                        count(length);
                        texts.add(take(BigInteger.valueOf(length)));
                    }
                    atEnd();
                    return texts;
                case 1:
                    BigInteger[] lengths = sizedCode(n);
                    for (BigInteger length : lengths) {
                        refuseIf(!isLength(length), RANGE);
                    }
                    for (BigInteger length : lengths) {
                        count(length.intValue());
                        texts.add(take(length));
                    }
                    atEnd();
                    return texts;
                case 2:
                    return frontTexts(n);
                default:
                    return dictionaryTexts(n);
            }
        }

        private List<byte[]> frontTexts(int n) throws Fault {
            BigInteger[] commons = sizedCode(n);
            BigInteger[] mores = sizedCode(n);
            List<byte[]> texts = new ArrayList<>();
            byte[] last = new byte[0];
            for (int k = 0; k < n; k++) {
                refuseIf(commons[k].signum() < 0 || mores[k].signum() < 0, RANGE);
                refuseIf(!isLength(commons[k].add(mores[k])), RANGE);
                refuseIf(commons[k].intValue() > last.length, RANGE);
                count(commons[k].add(mores[k]).intValue());
                last = Checks.join(Arrays.copyOf(last, commons[k].intValue()), take(mores[k]));
                texts.add(last);
            }
            atEnd();
            return texts;
        }

        private List<byte[]> dictionaryTexts(int n) throws Fault {
            BigInteger d = varint();
            refuseIf(d.compareTo(BigInteger.valueOf(n)) > 0, MANY);
            List<byte[]> words = new ArrayList<>();
            for (int k = 0; k < d.intValue(); k++) {
                words.add(take(BigInteger.valueOf(plainLength())));
            }
            int width = take(BigInteger.ONE)[0] & 255;
            refuseIf(width > 32, BITS);
            List<BigInteger> numbers = new ArrayList<>();
            while (numbers.size() < n) {
                run(numbers, n, width);
            }
            atEnd();
            List<byte[]> texts = new ArrayList<>();
            for (BigInteger number : numbers) {
                refuseIf(number.compareTo(d) >= 0, RANGE);
                byte[] word = words.get(number.intValue());
                count(word.length);
                texts.add(word);
            }
            return texts;
        }

        private void run(List<BigInteger> numbers, int n, int width) throws Fault {
            BigInteger head = varint();
            BigInteger times = head.shiftRight(1);
            int missing = n - numbers.size();
            refuseIf(times.signum() == 0, EMPTY);
            if (!head.testBit(0)) {
                refuseIf(times.compareTo(BigInteger.valueOf(missing)) > 0, MANY);
                String bits = unpacked(take(BigInteger.valueOf((width + 7) / 8)));
                refuseIf(bits.substring(width).contains("1"), BITS);
                for (int k = 0; k < times.intValue(); k++) {
                    numbers.add(number(bits.substring(0, width)));
                }
            } else {
                BigInteger before = times.subtract(BigInteger.ONE).shiftLeft(3);
                refuseIf(before.compareTo(BigInteger.valueOf(missing)) >= 0, MANY);
                String bits = unpacked(take(times.multiply(BigInteger.valueOf(width))));
                int kept = Math.min(missing, 8 * times.intValue());
                refuseIf(bits.substring(kept * width).contains("1"), BITS);
                for (int k = 0; k < kept; k++) {
                    numbers.add(number(bits.substring(k * width, (k + 1) * width)));
                }
            }
        }

        private BigInteger[] sizedCode(int n) throws Fault {
            Source inside = new Source(take(varint()));
            BigInteger[] numbers = inside.code();
            inside.atEnd();
            refuseIf(numbers.length != n, MANY);
            return numbers;
        }

        private BigInteger[] code() throws Fault {
            BigInteger m = varint();
            refuseIf(m.compareTo(BigInteger.valueOf(2000)) > 0, MANY);
            BigInteger[] numbers = new BigInteger[m.intValue()];
            if (numbers.length > 0) {
                numbers[0] = signed(unfold(varint()));
            }
            for (int from = 1; from < numbers.length; from += 64) {
                BigInteger least = unfold(varint());
                int[] widths = new int[4];
                for (int part = 0; part < 4; part++) {
                    widths[part] = take(BigInteger.ONE)[0] & 255;
                    refuseIf(widths[part] > 64, BITS);
                    refuseIf(from + 16 * part >= numbers.length && widths[part] > 0, BITS);
                }
                for (int part = 0; part < 4; part++) {
                    int width = widths[part];
                    String bits = unpacked(take(BigInteger.valueOf(2 * width)));
                    for (int k = 0; k < 16; k++) {
                        BigInteger over = number(bits.substring(k * width, (k + 1) * width));
                        int index = from + 16 * part + k;
                        if (index < numbers.length) {
                            numbers[index] = signed(numbers[index - 1].add(least).add(over));
                        } else {
                            refuseIf(over.signum() != 0, BITS);
                        }
                    }
                }
            }
            return numbers;
        }

        private static BigInteger unfold(BigInteger folded) {
            BigInteger half = folded.shiftRight(1);
            return folded.testBit(0) ? half.negate().subtract(BigInteger.ONE) : half;
        }

        private static BigInteger signed(BigInteger number) {
            return BigInteger.valueOf(number.longValue());
        }

        private static String unpacked(byte[] taken) {
            StringBuilder bits = new StringBuilder();
            for (byte cell : taken) {
                bits.append(lowFirst(cell, 8));
            }
            return bits.toString();
        }

        private static BigInteger number(String lowFirst) {
            BigInteger number = BigInteger.ZERO;
            for (int bit = 0; bit < lowFirst.length(); bit++) {
                number = lowFirst.charAt(bit) == '1' ? number.setBit(bit) : number;
            }
            return number;
        }

        private static boolean isLength(BigInteger length) {
            return length.signum() >= 0 && length.compareTo(BigInteger.valueOf(255)) <= 0;
        }

        private int plainLength() throws Fault {
            BigInteger length = varint();
            refuseIf(!isLength(length), RANGE);
            return length.intValue();
        }

        private void count(int length) throws Fault {
            total += length;
            refuseIf(total > 20000, RANGE);
        }

        private BigInteger varint() throws Fault {
            BigInteger number = BigInteger.ZERO;
            int start = at;
            while (true) {
                int cell = take(BigInteger.ONE)[0] & 255;
                int place = at - 1 - start;
                refuseIf(place == 9 && cell > 1, VARINT);
                number = number.add(BigInteger.valueOf(cell % 128).shiftLeft(7 * place));
                if (cell < 128) {
                    refuseIf(place > 0 && cell == 0, VARINT);
                    return number;
                }
            }
        }

        private byte[] take(BigInteger amount) throws Fault {
            refuseIf(amount.compareTo(BigInteger.valueOf(cells.length - at)) > 0, CUT);
            at += amount.intValue();
            return Arrays.copyOfRange(cells, at - amount.intValue(), at);
        }

        private void atEnd() throws Fault {
            refuseIf(at < cells.length, MORE);
        }
    }
}
