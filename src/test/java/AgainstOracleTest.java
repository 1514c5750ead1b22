import java.util.ArrayList;
import java.util.Arrays;
import java.util.List;

/** Promises 4 to 12 on many rows and many broken bytes, each answer worked out by the Oracle too. */
public final class AgainstOracleTest {
    private static final Checks CHECKS = new Checks();
    // A fixed sequence: every run of this test is the same.
    private static long state = 20261115;
    // An object that has written and read others before: nothing of them may be left.
    private static TextRows used = new TextRows();

    public static void main(String[] args) {
        for (int round = 0; round < 400; round++) {
            renewEach20th(round);
            roundTrip(texts(round));
        }
        largest();
        for (int round = 0; round < 6000; round++) {
            renewEach20th(round);
            broken(round);
        }
        CHECKS.finish();
    }

    private static void renewEach20th(int round) {
        if (round % 20 == 0) {
            used = new TextRows();
        }
    }

    private static int below(int bound) {
        state = state * 6364136223846793005L + 1442695040888963407L;
        return (int) ((state >>> 33) % bound);
    }

    private static List<byte[]> texts(int round) {
        List<byte[]> texts = new ArrayList<>();
        int amount = round % 5 == 0 ? below(140) : below(30);
        int letters = 1 + below(3);
        int longest = round % 7 == 0 ? 256 : 1 + below(12);
        int total = 0;
        while (texts.size() < amount) {
            byte[] text = text(texts, letters, longest);
            int times = below(4) == 0 ? 1 + below(20) : 1;
            for (int k = 0; k < times && total + text.length <= 20000; k++) {
                texts.add(text);
                total += text.length;
            }
            if (total + 256 > 20000) {
                break;
            }
        }
        return texts;
    }

    private static byte[] text(List<byte[]> before, int letters, int longest) {
        if (!before.isEmpty() && below(3) == 0) {
            return before.get(below(before.size()));
        }
        byte[] text = new byte[below(longest)];
        for (int k = 0; k < text.length; k++) {
            text[k] = (byte) (255 - below(letters) * below(2));
        }
        return text;
    }

    private static void fill(TextRows rows, List<byte[]> texts) {
        rows.clear();
        for (byte[] text : texts) {
            Checks.addText(rows, text);
        }
    }

    private static void sameRow(String what, TextRows rows, List<byte[]> texts) {
        CHECKS.due(what + ": size()", rows.size(), texts.size());
        for (int k = 0; k < texts.size(); k++) {
            CHECKS.dueBytes(what + ": text " + k, Checks.textOf(rows, k), texts.get(k));
        }
        CHECKS.due(what + ": length behind", rows.length(texts.size()), -1);
    }

    private static void roundTrip(List<byte[]> texts) {
        TextRows rows = used;
        fill(rows, texts);
        for (int form = 0; form < 4; form++) {
            byte[] want = Oracle.write(form, texts);
            int amount = rows.write(form);
            CHECKS.due("write(" + form + ")", amount, want.length);
            CHECKS.dueBytes("output of " + form, Checks.outputOf(rows, amount), want);
            CHECKS.due("turn()", rows.turn(), true);
            rows.clear();
            CHECKS.due("read(" + form + ")", rows.read(form, texts.size()), 0);
            sameRow("read " + form, rows, texts);
        }
    }

    /** Rows of 1000 texts and of 20000 bytes, all different, none of which outgrows the output. */
    private static void largest() {
        List<byte[]> same = new ArrayList<>();
        List<byte[]> wild = new ArrayList<>();
        for (int k = 0; k < 1000; k++) {
            byte[] text = new byte[20];
            text[0] = (byte) k;
            text[19] = (byte) (k >> 8);
            same.add(text);
            byte[] other = Arrays.copyOf(Checks.bytes(k, k >> 8, 1), k % 16 == 0 ? 255 : 2 + k % 2);
            wild.add(other);
        }
        roundTrip(same);
        roundTrip(wild);
        List<byte[]> longs = new ArrayList<>();
        for (int k = 0; k < 78; k++) {
            longs.add(Checks.filled(255, k));
        }
        longs.add(Checks.filled(110, 1));
        roundTrip(longs);
    }

    private static void broken(int round) {
        List<byte[]> texts = texts(round);
        int form = below(4);
        byte[] cells = Oracle.write(form, texts);
        int readAs = below(10) == 0 ? below(4) : form;
        for (int times = below(4); times > 0; times--) {
            cells = damaged(cells);
        }
        int n = below(4) == 0 ? below(texts.size() + 12) : texts.size();
        TextRows rows = used;
        rows.clear();
        Checks.addText(rows, Checks.ascii("before"));
        Checks.hand(rows, cells);
        Oracle.Answer answer = Oracle.read(readAs, cells, n);
        CHECKS.due("round " + round + ": read(" + readAs + ", " + n + ")", rows.read(readAs, n), answer.fault);
        if (answer.fault == 0) {
            sameRow("round " + round, rows, answer.texts);
        } else {
            sameRow("round " + round, rows, List.of(Checks.ascii("before")));
        }
    }

    private static byte[] damaged(byte[] cells) {
        int kind = below(5);
        // The heads stand in front: most damage is done there.
        int place = cells.length == 0 ? 0 : below(below(2) == 0 ? Math.min(cells.length, 24) : cells.length);
        byte[] front = Arrays.copyOf(cells, place);
        byte[] rest = Arrays.copyOfRange(cells, place, cells.length);
        if (kind == 0) {
            return front;
        }
        if (kind == 1) {
            return Checks.join(front, Checks.bytes(below(256)), rest);
        }
        if (rest.length == 0) {
            return Checks.join(cells, Checks.bytes(below(256)));
        }
        if (kind == 2) {
            return Checks.join(front, Arrays.copyOfRange(rest, 1, rest.length));
        }
        rest[0] = (byte) (kind == 3 ? below(256) : rest[0] ^ (1 << below(8)));
        return Checks.join(front, rest);
    }
}
