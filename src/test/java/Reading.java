import java.util.ArrayList;
import java.util.Arrays;
import java.util.List;

/**
 * Checks a set in both syntaxes and in every surrounding: alone, or in an item of a sequence, or
 * in one of a sequence in one, each length open or not.
 *
 * <p>A set is told as a row of marks: a byte; N, T or S for a kind byte, which the implicit syntax
 * has not; length(n) for the length of the bytes of the next n marks.
 */
final class Reading {
    static final int END = 1;
    static final int TAG = 2;
    static final int KIND = 3;
    static final int LENGTH = 4;
    static final int VALUE = 5;
    static final int ITEM = 6;
    static final int MANY = 7;
    static final int DEEP = 8;

    static final int N = 1001;
    static final int T = 1002;
    static final int S = 1003;
    private static final int KINDS = 1000;
    private static final int LENGTHS = 2000;

    /** A set with its surroundings; the place is where the set itself begins. */
    private record Placed(int[] bytes, int place, boolean insideOpenItem, boolean goesOn) {
    }

    private Reading() {
    }

    static int length(int marks) {
        return LENGTHS + marks;
    }

    /** Ten TEXTS without characters, with rising tags: thirty marks. */
    static int[] tenTexts(int first) {
        int[] row = new int[30];
        for (int i = 0; i < 10; i++) {
            row[3 * i] = first + i;
            row[3 * i + 1] = T;
        }
        return row;
    }

    static int[] bytes(int syntax, int... marks) {
        int[] all = new int[0];
        for (int i = 0; i < marks.length; i++) {
            if (marks[i] >= LENGTHS) {
                int[] inside = Arrays.copyOfRange(marks, i + 1, i + 1 + marks[i] - LENGTHS);
                all = Kit.join(all, Kit.bytes(bytes(syntax, inside).length));
            } else if (marks[i] < KINDS) {
                all = Kit.join(all, Kit.bytes(marks[i]));
            } else if (syntax == Kit.EXPLICIT) {
                all = Kit.join(all, Kit.bytes(marks[i] - KINDS));
            }
        }
        return all;
    }

    /** The set has no fault, with up to so many sequences around it. */
    static void good(int most, int... marks) {
        for (int syntax = 0; syntax <= 1; syntax++) {
            for (Placed placed : everywhere(most, syntax, bytes(syntax, marks), true)) {
                due(syntax, placed, 0);
            }
        }
    }

    /** The set has a fault at one of its marks, or behind the last one. */
    static void bad(int most, int fault, int mark, int... marks) {
        badIn(Kit.EXPLICIT, most, fault, mark, marks);
        badIn(Kit.IMPLICIT, most, fault, mark, marks);
    }

    /**
     * All lengths around that are not open end with the set, so that only the nearest one's end
     * can be the end that counts.
     */
    static void badIn(int syntax, int most, int fault, int mark, int... marks) {
        int before = bytes(syntax, withoutLengths(Arrays.copyOf(marks, mark))).length;
        for (Placed placed : everywhere(most, syntax, bytes(syntax, marks), false)) {
            due(syntax, placed, fault + 16 * (placed.place + before));
        }
    }

    /** As bad, but only where the set's own length is not open: there 253 would end it. */
    static void badIfNotOpen(int most, int fault, int mark, int... marks) {
        for (int syntax = 0; syntax <= 1; syntax++) {
            int before = bytes(syntax, withoutLengths(Arrays.copyOf(marks, mark))).length;
            for (Placed placed : everywhere(most, syntax, bytes(syntax, marks), false)) {
                if (!placed.insideOpenItem) {
                    due(syntax, placed, fault + 16 * (placed.place + before));
                }
            }
        }
    }

    /** A length is one byte, whatever it says. */
    private static int[] withoutLengths(int[] marks) {
        return Arrays.stream(marks).map(mark -> mark >= LENGTHS ? 0 : mark).toArray();
    }

    private static void due(int syntax, Placed placed, int want) {
        Node x = new Node(1);
        Kit.type(x, placed.bytes);
        Kit.due("check(" + syntax + ") of " + Arrays.toString(placed.bytes), x.check(syntax), want);
        Kit.due("how many bytes behind check", x.at(-1), placed.bytes.length);
    }

    private static List<Placed> everywhere(int most, int syntax, int[] set, boolean whole) {
        List<Placed> all = new ArrayList<>();
        List<Placed> outer = List.of(new Placed(set, 0, false, false));
        for (int depth = 0; depth <= most; depth++) {
            outer.forEach(placed -> all.add(withTail(syntax, placed)));
            List<Placed> next = new ArrayList<>();
            for (Placed placed : outer) {
                for (int open = 0; open < 4; open++) {
                    next.add(around(syntax, placed, depth == 0, open % 2 == 1, open / 2 == 1, whole));
                }
            }
            outer = next;
        }
        return all;
    }

    private static Placed around(int syntax, Placed in, boolean first, boolean openItem, boolean openSequence,
            boolean whole) {
        int[] item = Kit.join(Kit.bytes(254, openItem ? 255 : in.bytes.length), in.bytes,
                openItem && whole ? Kit.bytes(253) : Kit.bytes());
        int[] head = bytes(syntax, 170, S, openSequence ? 255 : item.length);
        int[] all = Kit.join(head, item, openSequence && whole ? Kit.bytes(252) : Kit.bytes());
        boolean inOpen = first ? openItem : in.insideOpenItem;
        return new Placed(all, head.length + 2 + in.place, inOpen, in.goesOn || whole || !openItem || !openSequence);
    }

    /** What comes behind has nothing to do with the set, unless nothing ends before it. */
    private static Placed withTail(int syntax, Placed placed) {
        if (!placed.goesOn) {
            return placed;
        }
        return new Placed(Kit.join(placed.bytes, bytes(syntax, 199, S, 0)), placed.place, placed.insideOpenItem, true);
    }
}
