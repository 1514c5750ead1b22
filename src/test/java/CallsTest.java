import java.util.ArrayList;
import java.util.Arrays;
import java.util.List;

/** All promises together: runs of 512 calls, each answer held against a plain model of the object. */
public final class CallsTest {
    private static final int RUNS = 300;
    private static final int CALLS = 512;
    private static final int[] EDGES = {Integer.MIN_VALUE, -2, -1, 0, 1, 2, 3, 4, 5, 7, 8, 9, 16, 17, 19, 20, 21,
        64, 65, 128, 254, 255, 256, 999, 1000, 1001, 19999, 20000, 20001, 24000, 24001, Integer.MAX_VALUE};

    private static final Checks CHECKS = new Checks();
    // A fixed sequence: every run of this test is the same.
    private static long state = 20261116;

    public static void main(String[] args) {
        for (int run = 0; run < RUNS; run++) {
            TextRows rows = new TextRows();
            Model model = new Model();
            for (int call = 0; call < CALLS; call++) {
                step("run " + run + ", call " + call + ": ", rows, model);
            }
        }
        CHECKS.finish();
    }

    /** The document's words about an object, with lists and whole copies. */
    private static final class Model {
        byte[] tape = new byte[0];
        byte[] input = new byte[0];
        byte[] output = new byte[0];
        List<byte[]> row = new ArrayList<>();

        boolean feed(int... five) {
            if (tape.length + 20 > 24000) {
                return false;
            }
            byte[] cells = new byte[20];
            java.nio.ByteBuffer.wrap(cells).asIntBuffer().put(five);
            tape = Checks.join(tape, cells);
            return true;
        }

        boolean end(int n) {
            if (n < 0 || n > tape.length) {
                return false;
            }
            input = Arrays.copyOf(tape, n);
            tape = new byte[0];
            return true;
        }

        boolean add(int n) {
            long total = row.stream().mapToLong(text -> text.length).sum();
            if (n < 1 || input.length > 255 || (long) row.size() + n > 1000
                    || total + (long) n * input.length > 20000) {
                return false;
            }
            for (int k = 0; k < n; k++) {
                row.add(input);
            }
            return true;
        }

        int write(int form) {
            boolean isForm = form >= 0 && form <= 3;
            output = isForm ? Oracle.write(form, row) : new byte[0];
            return isForm ? output.length : -1;
        }

        int read(int form, int n) {
            if (form < 0 || form > 3 || n < 0 || n > 1000) {
                return -1;
            }
            Oracle.Answer answer = Oracle.read(form, input, n);
            if (answer.fault == 0) {
                row = new ArrayList<>(answer.texts);
            }
            return answer.fault;
        }

        boolean turn() {
            if (output.length > 24000) {
                return false;
            }
            input = output;
            return true;
        }

        int length(int k) {
            return k >= 0 && k < row.size() ? row.get(k).length : -1;
        }

        int byteOf(int k, int i) {
            return i >= 0 && i < length(k) ? row.get(k)[i] & 255 : -1;
        }

        int outputAt(int k) {
            return k >= 0 && k < output.length ? output[k] & 255 : -1;
        }
    }

    private static int below(int bound) {
        state = state * 6364136223846793005L + 1442695040888963407L;
        return (int) ((state >>> 33) % bound);
    }

    /** Mostly small, sometimes an edge. */
    private static int number(int bound) {
        return below(6) == 0 ? EDGES[below(EDGES.length)] : below(bound);
    }

    /** Four bytes, small ones for the most part: many of them can be read as one of the FORMS. */
    private static int four() {
        int cells = 0;
        for (int k = 0; k < 4; k++) {
            cells = cells << 8 | (below(8) == 0 ? below(256) : below(4));
        }
        return cells;
    }

    private static void step(String at, TextRows rows, Model model) {
        int n = number(24);
        int k = number(12);
        int form = below(12) == 0 ? EDGES[below(EDGES.length)] : below(4);
        switch (below(13)) {
            case 0: case 1:
                int[] five = {four(), four(), four(), four(), four()};
                CHECKS.due(at + "feed", rows.feed(five[0], five[1], five[2], five[3], five[4]), model.feed(five));
                break;
            case 2:
                CHECKS.due(at + "end(" + n + ")", rows.end(n), model.end(n));
                break;
            case 3:
                CHECKS.due(at + "add(" + k + ")", rows.add(k), model.add(k));
                break;
            case 4:
                if (below(4) == 0) {
                    rows.clear();
                    model.row.clear();
                }
                break;
            case 5:
                CHECKS.due(at + "write(" + form + ")", rows.write(form), model.write(form));
                break;
            case 6:
                int amount = below(3) == 0 ? n : model.row.size();
                CHECKS.due(at + "read(" + form + ", " + amount + ")", rows.read(form, amount),
                        model.read(form, amount));
                break;
            case 7:
                CHECKS.due(at + "turn()", rows.turn(), model.turn());
                break;
            case 8:
                CHECKS.due(at + "size()", rows.size(), model.row.size());
                break;
            case 9:
                CHECKS.due(at + "length(" + k + ")", rows.length(k), model.length(k));
                break;
            case 10:
                CHECKS.due(at + "byteOf(" + k + ", " + n + ")", rows.byteOf(k, n), model.byteOf(k, n));
                break;
            case 11:
                CHECKS.due(at + "output(" + n + ")", rows.output(n), model.outputAt(n));
                break;
            default:
                all(at, rows, model);
        }
    }

    /** The whole row and the ends of the output. */
    private static void all(String at, TextRows rows, Model model) {
        for (int k = 0; k < model.row.size(); k++) {
            CHECKS.dueBytes(at + "text " + k, Checks.textOf(rows, k), model.row.get(k));
        }
        int end = model.output.length;
        for (int k : new int[] {0, end / 2, end - 2, end - 1, end}) {
            CHECKS.due(at + "output(" + k + ")", rows.output(k), model.outputAt(k));
        }
    }
}
