import java.util.Arrays;

/** CANONICAL bytes at their limits, and what convert refuses. */
public final class BoundaryCanonicalTest {
    private static final int N = Reading.N;
    private static final int T = Reading.T;
    private static final int S = Reading.S;

    public static void main(String[] args) {
        numbersHaveAsFewBytesAsWillDo();
        theHighestBitIsTheSign();
        anOddNumberOfCharacters();
        noLengthIsOpen();
        theEmptySet();
        upTo120Bytes();
        canonicalBytesAreCounted();
        noSuchSyntax();
        aFaultIsRefused();
        Kit.end();
    }

    private static int[] join(int[]... rows) {
        return Kit.join(rows);
    }

    private static int[] row(int... marks) {
        return marks;
    }

    /** All four ways between the syntaxes. */
    private static void converts(String what, int[] marks, int... want) {
        for (int way = 0; way < 4; way++) {
            int from = way / 2;
            int to = way % 2;
            int[] due = Reading.bytes(to, want);
            Node x = new Node(1);
            Kit.type(x, Reading.bytes(from, marks));
            Kit.due("convert(" + from + ", " + to + ") of " + what, x.convert(from, to), due.length);
            Kit.due("canonical bytes of " + what, Kit.draft(x), due);
            Kit.due("they are a set", x.check(to), 0);
            Kit.due("and stay what they are", x.convert(to, to), due.length);
            Kit.due("all of them", Kit.draft(x), due);
        }
    }

    private static int[] lowestFirst(long value, int bytes) {
        int[] row = new int[bytes];
        for (int i = 0; i < bytes; i++) {
            row[i] = (int) (value >> 8 * i) & 255;
        }
        return row;
    }

    private static int fewest(long value) {
        for (int bytes = 1; bytes < 4; bytes++) {
            if (value >= -(1L << 8 * bytes - 1) && value < 1L << 8 * bytes - 1) {
                return bytes;
            }
        }
        return 4;
    }

    /** "NUMBERS have as few bytes as will do": the last value on each side of each limit. */
    private static void numbersHaveAsFewBytesAsWillDo() {
        long[] values = {0, 1, -1, 127, 128, -128, -129, 255, 256, 32767, 32768, -32768, -32769, 65535, 65536, 8388607,
            8388608, -8388608, -8388609, 16777215, 16777216, Integer.MAX_VALUE, Integer.MIN_VALUE};
        for (long value : values) {
            int few = fewest(value);
            for (int bytes = few; bytes <= 4; bytes++) {
                int[] given = join(row(9, N, bytes), lowestFirst(value, bytes));
                int[] want = join(row(9, N, few), lowestFirst(value, few));
                converts(value + " in " + bytes + " bytes", given, want);
                converts(value + " in an item", join(row(160, S, 255, 254, 255), given, row(253, 252)),
                        join(row(160, S, Reading.length(5 + few), 254, Reading.length(3 + few)), want));
            }
        }
    }

    /** "the highest one's bit of value 128 being its sign" */
    private static void theHighestBitIsTheSign() {
        converts("127", row(9, N, 1, 127), 9, N, 1, 127);
        converts("128", row(9, N, 2, 128, 0), 9, N, 2, 128, 0);
        converts("-128", row(9, N, 1, 128), 9, N, 1, 128);
        converts("-128 in two bytes", row(9, N, 2, 128, 255), 9, N, 1, 128);
        converts("-129", row(9, N, 2, 127, 255), 9, N, 2, 127, 255);
        converts("-1 in three bytes", row(9, N, 3, 255, 255, 255), 9, N, 1, 255);
        converts("65535", row(9, N, 3, 255, 255, 0), 9, N, 3, 255, 255, 0);
    }

    /** "a blank behind an odd number of them" */
    private static void anOddNumberOfCharacters() {
        for (int n = 0; n <= 16; n++) {
            int[] text = join(row(90, T, n + n % 2), Kit.many(n, 'z'), n % 2 == 1 ? row(32) : row());
            converts(n + " characters", text, text);
        }
    }

    /** "no length is open" */
    private static void noLengthIsOpen() {
        converts("an open sequence", row(160, S, 255, 252), 160, S, 0);
        converts("a sequence", row(160, S, 0), 160, S, 0);
        converts("an open item", row(160, S, 3, 254, 255, 253), 160, S, 2, 254, 0);
        converts("an item", row(160, S, 255, 254, 0, 252), 160, S, 2, 254, 0);
        converts("two in two", row(160, S, 255, 254, 255, 161, S, 255, 254, 255, 80, T, 0, 253, 254, 0, 252, 253, 254,
                255, 253, 252, 200, S, 255, 252),
                160, S, Reading.length(14), 254, Reading.length(10), 161, S, Reading.length(7), 254, Reading.length(3), 80,
                T, 0, 254, 0, 254, 0, 200, S, 0);
    }

    private static void theEmptySet() {
        converts("the empty set", row());
    }

    /** Eight elements: 118 bytes and those of the number in the explicit syntax. */
    private static int[] wide(int numberBytes, int... number) {
        int[] row = join(row(1, numberBytes), number);
        for (int tag = 80; tag < 85; tag++) {
            row = join(row, row(tag, 16), Kit.many(16, 65));
        }
        return join(row, row(85, 14), Kit.many(14, 65), row(86, 0));
    }

    /** "IllegalStateException when .. they are more than 120" */
    private static void upTo120Bytes() {
        converts119And120();
        for (int more = 3; more <= 4; more++) {
            int[] row = more == 3 ? wide(3, 0, 0, 1) : wide(4, 0, 0, 0, 1);
            Node x = new Node(1);
            Kit.type(x, row);
            Kit.dueThrows("convert to " + (118 + more) + " bytes", IllegalStateException.class, () -> x.convert(1, 0));
            Kit.due("the draft stays", Kit.draft(x), row);
            Kit.due("convert to the same syntax", x.convert(1, 1), row.length);
        }
    }

    private static void converts119And120() {
        for (int bytes = 1; bytes <= 2; bytes++) {
            int[] row = bytes == 1 ? wide(1, 1) : wide(2, 0, 1);
            Node x = new Node(1);
            Kit.type(x, row);
            Kit.due("convert to " + (118 + bytes), x.convert(1, 0), 118 + bytes);
            Kit.due("all are there", x.at(-1), 118 + bytes);
            Kit.due("a set in the other syntax", x.check(0), 0);
            Kit.due("back again", x.convert(0, 1), 110 + bytes);
            Kit.due("the same", Kit.draft(x), row);
        }
    }

    /** Not the bytes that were typed: four of a number may become two. */
    private static void canonicalBytesAreCounted() {
        Node x = new Node(1);
        Kit.type(x, wide(4, 0, 1, 0, 0));
        Kit.due("a long number", x.convert(1, 0), 120);
        Kit.due("a full draft", x.type(1, 1), false);
        Node y = new Node(1);
        int[] open = join(row(1, 4, 7, 0, 0, 0), Arrays.copyOfRange(wide(1, 1), 3, 111), row(160, 255, 254, 255, 253, 252));
        Kit.type(y, open);
        Kit.due("a full draft", y.at(-1), 120);
        Kit.due("fewer bytes of it", y.convert(1, 1), 115);
        Kit.due("room again", y.type(1, 5), true);
        Kit.due("but no more", y.type(1, 1), false);
    }

    /** "IllegalArgumentException when there is no such syntax; else IllegalStateException" */
    private static void noSuchSyntax() {
        int[] wrong = {-1, 2, 3, 255, 256, Integer.MAX_VALUE, Integer.MIN_VALUE};
        for (int syntax : wrong) {
            for (int other = 0; other <= 1; other++) {
                refuses("from " + syntax, IllegalArgumentException.class, syntax, other, 1, 1, 4, 0, 0, 0);
                refuses("to " + syntax, IllegalArgumentException.class, other, syntax, 1, 1, 4, 0, 0, 0);
                refuses("from " + syntax + " with a fault", IllegalArgumentException.class, syntax, other, 0);
                refuses("to " + syntax + " with a fault", IllegalArgumentException.class, other, syntax, 0);
            }
            refuses("from and to " + syntax, IllegalArgumentException.class, syntax, syntax);
            Node x = new Node(1);
            Kit.type(x, 9);
            Kit.dueThrows("check(" + syntax + ")", IllegalArgumentException.class, () -> x.check(syntax));
            Kit.due("the draft stays", Kit.draft(x), 9);
        }
    }

    /** "IllegalStateException when it has a fault": one of each, and the draft stays. */
    private static void aFaultIsRefused() {
        for (int to = 0; to <= 1; to++) {
            refuses("END", IllegalStateException.class, 1, to, 1, 1, 5, 80);
            refuses("TAG", IllegalStateException.class, 1, to, 1, 4, 5, 0, 0, 0, 1, 1, 5);
            refuses("KIND", IllegalStateException.class, 0, to, 80, 1, 0);
            refuses("LENGTH", IllegalStateException.class, 1, to, 1, 0);
            refuses("VALUE", IllegalStateException.class, 1, to, 80, 2, 32, 32);
            refuses("ITEM", IllegalStateException.class, 1, to, 160, 1, 0);
            refuses("MANY", IllegalStateException.class, 1, to,
                    join(Reading.bytes(1, Reading.tenTexts(80)), row(90, 0)));
            refuses("DEEP", IllegalStateException.class, 1, to, 160, 8, 254, 6, 160, 4, 254, 2, 160, 0);
        }
        refuses("the other syntax", IllegalStateException.class, 0, 1, 1, 2, 5, 0);
    }

    private static void refuses(String what, Class<? extends RuntimeException> kind, int from, int to, int... bytes) {
        Node x = new Node(1);
        Kit.type(x, bytes);
        Kit.dueThrows("convert(" + from + ", " + to + "): " + what, kind, () -> x.convert(from, to));
        Kit.due("the draft stays: " + what, Kit.draft(x), bytes);
    }
}
