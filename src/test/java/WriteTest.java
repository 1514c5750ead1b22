/** Promises 6, 8 and 12: write, turn and output, with bytes worked out by hand. */
public final class WriteTest {
    private static final Checks CHECKS = new Checks();

    public static void main(String[] args) {
        emptyRow();
        noSuchForm();
        plain();
        lengths();
        front();
        dictionary();
        runsOfOne();
        outputAndTurn();
        CHECKS.finish();
    }

    private static TextRows rowOf(String... texts) {
        TextRows rows = new TextRows();
        for (String text : texts) {
            Checks.addText(rows, Checks.ascii(text));
        }
        return rows;
    }

    private static void written(String what, TextRows rows, int form, byte[] want) {
        int amount = rows.write(form);
        CHECKS.due(what + ": write(" + form + ")", amount, want.length);
        CHECKS.dueBytes(what + ": output", Checks.outputOf(rows, amount), want);
        CHECKS.due(what + ": output(" + amount + ")", rows.output(amount), -1);
    }

    private static void emptyRow() {
        TextRows rows = new TextRows();
        written("empty", rows, 0, Checks.bytes());
        written("empty", rows, 1, Checks.bytes(1, 0));
        written("empty", rows, 2, Checks.bytes(1, 0, 1, 0));
        written("empty", rows, 3, Checks.bytes(0, 0));
    }

    private static void noSuchForm() {
        TextRows rows = rowOf("a");
        for (int form : new int[] {-1, 4, Integer.MIN_VALUE, Integer.MAX_VALUE, 256}) {
            CHECKS.due("write(0)", rows.write(0), 2);
            CHECKS.due("output(1)", rows.output(1), 'a');
            CHECKS.due("write(" + form + ")", rows.write(form), -1);
            CHECKS.due("output(0)", rows.output(0), -1);
        }
        CHECKS.due("turn() of nothing", rows.turn(), true);
        CHECKS.due("read(0, 0)", rows.read(0, 0), 0);
    }

    private static void plain() {
        written("one text", rowOf("ab"), 0, Checks.bytes(2, 'a', 'b'));
        written("texts", rowOf("", "z", ""), 0, Checks.bytes(0, 1, 'z', 0));
        TextRows rows = new TextRows();
        Checks.addText(rows, Checks.filled(127, 7));
        Checks.addText(rows, Checks.filled(128, 8));
        Checks.addText(rows, Checks.filled(255, 9));
        written("long texts", rows, 0, Checks.join(Checks.bytes(127), Checks.filled(127, 7),
                Checks.bytes(128, 1), Checks.filled(128, 8),
                Checks.bytes(255, 1), Checks.filled(255, 9)));
    }

    private static void lengths() {
        written("one text", rowOf("ab"), 1, Checks.bytes(2, 1, 4, 'a', 'b'));
        // Lengths 2, 2, 2: the differences are 0, 0, and take no bits.
        written("same lengths", rowOf("ab", "cd", "ef"), 1,
                Checks.bytes(7, 3, 4, 0, 0, 0, 0, 0, 'a', 'b', 'c', 'd', 'e', 'f'));
        // Lengths 0, 1, 3: the differences are 1, 2; less 1 they are 0, 1, in one bit each.
        written("more each time", rowOf("", "a", "bcd"), 1,
                Checks.bytes(9, 3, 0, 2, 1, 0, 0, 0, 2, 0, 'a', 'b', 'c', 'd'));
    }

    private static void front() {
        written("one text", rowOf("ab"), 2, Checks.bytes(2, 1, 0, 2, 1, 4, 'a', 'b'));
        // In common 0, 2, 1; more 2, 1, 0: differences 2, -1 (less -1: 3, 0) and -1, -1.
        written("three texts", rowOf("ab", "abc", "a"), 2, Checks.bytes(
                11, 3, 0, 1, 2, 0, 0, 0, 3, 0, 0, 0, 7, 3, 4, 1, 0, 0, 0, 0, 'a', 'b', 'c'));
        // The same text has all in common, nothing more.
        written("the same twice", rowOf("ab", "ab"), 2, Checks.bytes(
                7, 2, 0, 4, 0, 0, 0, 0, 7, 2, 4, 3, 0, 0, 0, 0, 'a', 'b'));
    }

    private static void dictionary() {
        written("one text", rowOf("ab"), 3, Checks.bytes(1, 2, 'a', 'b', 0, 3));
        written("two texts", rowOf("a", "b", "a", "b", "b"), 3,
                Checks.bytes(2, 1, 'a', 1, 'b', 1, 3, 0x1A));
        written("three texts", rowOf("c", "", "a", "c", "a"), 3,
                Checks.bytes(3, 1, 'c', 0, 1, 'a', 2, 3, 0x24, 0x02));
        // Text and length alike in the beginning are not the same text.
        written("near texts", rowOf("a", "aa", "a\0", "a"), 3,
                Checks.bytes(3, 1, 'a', 2, 'a', 'a', 2, 'a', 0, 2, 3, 0x24, 0));
    }

    private static void runsOfOne() {
        written("seven same", rowOf("a", "a", "a", "a", "a", "a", "a"), 3,
                Checks.bytes(1, 1, 'a', 0, 3));
        written("eight same", rowOf("a", "a", "a", "a", "a", "a", "a", "a"), 3,
                Checks.bytes(1, 1, 'a', 0, 16));
        TextRows rows = rowOf("a");
        Checks.hand(rows, Checks.ascii("b"));
        rows.add(14);
        // The first group takes seven of the same; from there on only seven are left.
        written("one and fourteen", rows, 3, Checks.bytes(2, 1, 'a', 1, 'b', 1, 5, 0xFE, 0x7F));
        rows.add(1);
        // Eight are left: a run of ONE.
        written("one and fifteen", rows, 3, Checks.bytes(2, 1, 'a', 1, 'b', 1, 3, 0xFE, 16, 1));
        Checks.hand(rows, Checks.ascii("c"));
        rows.add(100);
        written("a run behind a run", rows, 3, Checks.bytes(
                3, 1, 'a', 1, 'b', 1, 'c', 2, 3, 0x54, 0x55, 16, 1, 200, 1, 2));
    }

    private static void outputAndTurn() {
        TextRows rows = rowOf("ab", "\u00ff");
        CHECKS.due("output(0) before write", rows.output(0), -1);
        CHECKS.due("write(0)", rows.write(0), 5);
        for (int k : new int[] {-1, 5, 6, 24000, Integer.MIN_VALUE, Integer.MAX_VALUE}) {
            CHECKS.due("output(" + k + ")", rows.output(k), -1);
        }
        CHECKS.due("output(4)", rows.output(4), 255);
        CHECKS.due("turn()", rows.turn(), true);
        CHECKS.due("output(4) after turn", rows.output(4), 255);
        rows.clear();
        CHECKS.due("add(1) of the output", rows.add(1), true);
        CHECKS.dueBytes("text 0", Checks.textOf(rows, 0), Checks.bytes(2, 'a', 'b', 1, 255));
        rows.feed(0x61626364, 0, 0, 0, 0);
        CHECKS.due("turn() beside the tape", rows.turn(), true);
        CHECKS.due("end(4): the tape stays", rows.end(4), true);
        rows.add(1);
        CHECKS.dueBytes("text 1", Checks.textOf(rows, 1), Checks.ascii("abcd"));
        CHECKS.due("output(1) after end", rows.output(1), 'a');
        CHECKS.due("write(0) again", rows.write(0), 11);
        CHECKS.due("output(0)", rows.output(0), 5);
    }
}
