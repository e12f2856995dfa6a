import java.util.Arrays;

/** The limits of sets, elements, items, texts and lengths, each in both syntaxes and everywhere. */
public final class BoundarySetsTest {
    private static final int N = Reading.N;
    private static final int T = Reading.T;
    private static final int S = Reading.S;

    public static void main(String[] args) {
        elementsOfASet();
        elementsOfEachSetAlone();
        tags();
        tagsRise();
        tagsOfEachSetAlone();
        kindsByTag();
        kindBytes();
        bytesOfANumber();
        lengthOfAText();
        codesOfAText();
        lastCharacterOfAText();
        itemsOfASequence();
        itemsOfEachSequenceAlone();
        sequencesAroundAnElement();
        openLengths();
        Kit.end();
    }

    private static int[] join(int[]... rows) {
        return Kit.join(rows);
    }

    private static int[] row(int... marks) {
        return marks;
    }

    /** "A SET has 0 to 10 ELEMENTS": and the eleventh is 7 MANY, at its tag. */
    private static void elementsOfASet() {
        Reading.good(2);
        Reading.good(2, 1, N, 1, 0);
        Reading.good(2, Arrays.copyOf(Reading.tenTexts(80), 27));
        Reading.good(2, Reading.tenTexts(80));
        Reading.bad(2, Reading.MANY, 30, join(Reading.tenTexts(80), row(90, T, 0)));
        Reading.bad(2, Reading.MANY, 30, join(Reading.tenTexts(150), row(160)));
        int[] numbers = new int[0];
        for (int tag = 1; tag <= 10; tag++) {
            numbers = join(numbers, row(tag, N, 1, tag));
        }
        Reading.good(2, numbers);
        Reading.bad(2, Reading.MANY, 40, join(numbers, row(11, N, 1, 11)));
        int[] sequences = new int[0];
        for (int tag = 160; tag < 170; tag++) {
            sequences = join(sequences, row(tag, S, 0));
        }
        Reading.good(1, sequences);
        Reading.bad(1, Reading.MANY, 30, join(sequences, row(170, S, 0)));
    }

    /** Ten elements in each of two items, and ten around them. */
    private static void elementsOfEachSetAlone() {
        int[] nine = Arrays.copyOf(Reading.tenTexts(80), 27);
        int[] ten = Reading.tenTexts(80);
        Reading.good(0, join(nine, row(160, S, Reading.length(64), 254, Reading.length(30)), ten,
                row(254, Reading.length(30)), ten));
        Reading.bad(0, Reading.MANY, 94, join(nine, row(160, S, Reading.length(64), 254, Reading.length(30)), ten,
                row(254, Reading.length(30)), ten, row(161, S, 0)));
    }

    /** "TAGS 1 .. 200" */
    private static void tags() {
        Reading.bad(2, Reading.TAG, 0, 0, N, 1, 0);
        Reading.good(2, 1, N, 1, 0);
        Reading.good(1, 200, S, 0);
        for (int tag = 201; tag <= 255; tag++) {
            if (tag != 253) {
                Reading.bad(2, Reading.TAG, 0, tag, S, 0);
                Reading.bad(2, Reading.TAG, 4, 1, N, 1, 0, tag, S, 0);
            }
        }
        Reading.bad(2, Reading.TAG, 4, 1, N, 1, 0, 0, N, 1, 0);
    }

    /** "rising": the one before is not reached again. */
    private static void tagsRise() {
        Reading.good(2, 5, N, 1, 0, 6, N, 1, 0);
        Reading.bad(2, Reading.TAG, 4, 5, N, 1, 0, 5, N, 1, 0);
        Reading.bad(2, Reading.TAG, 4, 5, N, 1, 0, 4, N, 1, 0);
        Reading.good(2, 100, T, 0, 101, T, 0);
        Reading.bad(2, Reading.TAG, 3, 100, T, 0, 100, T, 0);
        Reading.bad(2, Reading.TAG, 3, 100, T, 0, 79, N, 1, 0);
        Reading.good(1, 170, S, 0, 171, S, 0);
        Reading.bad(1, Reading.TAG, 3, 170, S, 0, 170, S, 0);
        Reading.bad(1, Reading.TAG, 3, 170, S, 0, 169, S, 0);
        Reading.bad(2, Reading.TAG, 7, 5, N, 1, 0, 80, T, 0, 6, N, 1, 0);
        Reading.bad(1, Reading.TAG, 3, 200, S, 0, 1, N, 1, 0);
    }

    /** The one before is of the same set: not of a set inside, nor of the item before. */
    private static void tagsOfEachSetAlone() {
        Reading.good(1, 160, S, Reading.length(10), 254, Reading.length(3), 90, T, 0, 254, Reading.length(3), 80, T, 0,
                161, S, 0);
        Reading.good(0, 160, S, Reading.length(5), 254, Reading.length(3), 199, S, 0, 161, S, 0);
        Reading.bad(0, Reading.TAG, 8, 160, S, Reading.length(5), 254, Reading.length(3), 150, T, 0, 155, T, 0);
    }

    /** "a NUMBER (1 .. 79) .. a TEXT (80 .. 159) .. a SEQUENCE (160 .. 200)" */
    private static void kindsByTag() {
        for (int tag = 1; tag <= 200; tag++) {
            boolean isNumber = tag <= 79;
            boolean isText = tag >= 80 && tag <= 159;
            int kind = isNumber ? N : isText ? T : S;
            // three bytes fit a NUMBER alone, 'AB' a TEXT alone, an open length a SEQUENCE alone
            due(tag, isNumber, Reading.LENGTH, 2, tag, kind, 3, 65, 66, 67);
            due(tag, !isNumber, Reading.LENGTH, 2, tag, kind, 0);
            due(tag, tag >= 160, Reading.LENGTH, 2, tag, kind, 255, 252);
        }
        Reading.bad(0, Reading.VALUE, 3, 159, T, 2, 254, 0);
        Reading.good(0, 160, S, 2, 254, 0);
    }

    private static void due(int tag, boolean good, int fault, int mark, int... marks) {
        if (good) {
            Reading.good(0, marks);
        } else if (tag < 160) {
            Reading.bad(0, fault, mark, marks);
        } else {
            // the bytes are read as items
            Reading.bad(0, Reading.ITEM, mark + 1, marks);
        }
    }

    /** "a byte 1 for a NUMBER, 2 for a TEXT, 3 for a SEQUENCE": 3 KIND, at that byte. */
    private static void kindBytes() {
        for (int kind = 0; kind <= 255; kind++) {
            oneKind(kind, 1, 1, 1, 7);
            oneKind(kind, 1, 79, 1, 7);
            oneKind(kind, 2, 80, 0);
            oneKind(kind, 2, 159, 0);
            oneKind(kind, 3, 160, 0);
            oneKind(kind, 3, 200, 0);
        }
        Reading.badIn(Kit.EXPLICIT, 2, Reading.KIND, 1, 79, 2, 0);
        Reading.badIn(Kit.EXPLICIT, 2, Reading.KIND, 1, 80, 1, 0);
        Reading.badIn(Kit.EXPLICIT, 1, Reading.KIND, 1, 160, 2, 0);
    }

    private static void oneKind(int kind, int due, int tag, int... rest) {
        Node x = new Node(1);
        Kit.type(x, join(row(tag, kind), rest));
        Kit.due("kind " + kind + " for the tag " + tag, x.check(0), kind == due ? 0 : Reading.KIND + 16);
    }

    /** "NUMBER: 1 to 4 bytes" */
    private static void bytesOfANumber() {
        Reading.bad(2, Reading.LENGTH, 2, 7, N, 0);
        Reading.bad(2, Reading.LENGTH, 2, 7, N, 0, 1, 1, 1, 1);
        Reading.good(2, 7, N, 1, 255);
        Reading.good(2, 7, N, 2, 255, 0);
        Reading.good(2, 7, N, 3, 255, 0, 128);
        Reading.good(2, 7, N, 4, 255, 0, 0, 128);
        Reading.bad(2, Reading.LENGTH, 2, 7, N, 5, 1, 1, 1, 1, 1);
        Reading.bad(2, Reading.LENGTH, 2, 7, N, 255, 1, 1, 1, 1);
    }

    /** "TEXT: an even length up to 16" */
    private static void lengthOfAText() {
        for (int length = 0; length <= 20; length++) {
            int[] text = join(row(100, T, length), Kit.many(length, 65));
            if (length <= 16 && length % 2 == 0) {
                Reading.good(2, text);
            } else {
                Reading.bad(2, Reading.LENGTH, 2, text);
            }
        }
        Reading.bad(2, Reading.LENGTH, 2, 100, T, 240);
        Reading.bad(2, Reading.LENGTH, 2, 100, T, 255, 65, 65);
    }

    /** "characters of the codes 32 to 126": else 5 VALUE, at the value's first byte. */
    private static void codesOfAText() {
        for (int code = 0; code <= 255; code++) {
            int most = code == 31 || code == 32 || code == 126 || code == 127 ? 2 : 0;
            for (int place = 0; place < 16; place++) {
                int[] text = join(row(100, T, 16), Kit.many(16, 65));
                text[3 + place] = code;
                if (code >= 32 && code <= 126) {
                    Reading.good(most, text);
                } else {
                    Reading.bad(most, Reading.VALUE, 3, text);
                }
            }
        }
    }

    /** "the last not a blank": of an even number of characters no blank was added. */
    private static void lastCharacterOfAText() {
        Reading.good(2, 100, T, 2, 65, 32);
        Reading.good(2, 100, T, 2, 32, 65);
        Reading.bad(2, Reading.VALUE, 3, 100, T, 2, 32, 32);
        Reading.good(2, 100, T, 4, 65, 32, 65, 32);
        Reading.good(2, 100, T, 4, 32, 32, 65, 32);
        Reading.bad(2, Reading.VALUE, 3, 100, T, 4, 65, 65, 32, 32);
        Reading.bad(2, Reading.VALUE, 3, 100, T, 4, 65, 32, 32, 32);
        Reading.good(2, join(row(100, T, 16), Kit.many(15, 65), row(32)));
        Reading.good(2, join(row(100, T, 16), Kit.many(14, 32), row(65, 32)));
        Reading.bad(2, Reading.VALUE, 3, join(row(100, T, 16), Kit.many(14, 65), row(32, 32)));
        Reading.bad(2, Reading.VALUE, 3, join(row(100, T, 16), Kit.many(16, 32)));
    }

    /** "0 to 4 ITEMS": and the fifth is 7 MANY, at the 254. */
    private static void itemsOfASequence() {
        for (int n = 0; n <= 6; n++) {
            int[] closed = new int[0];
            int[] open = new int[0];
            for (int i = 0; i < n; i++) {
                closed = join(closed, row(254, 0));
                open = join(open, row(254, 255, 253));
            }
            if (n <= 4) {
                Reading.good(1, join(row(160, S, 2 * n), closed));
                Reading.good(1, join(row(160, S, 255), closed, row(252)));
                Reading.good(1, join(row(160, S, 3 * n), open));
                Reading.good(1, join(row(160, S, 255), open, row(252)));
            } else {
                Reading.bad(1, Reading.MANY, 3 + 8, join(row(160, S, 2 * n), closed));
                Reading.bad(1, Reading.MANY, 3 + 8, join(row(160, S, 255), closed, row(252)));
                Reading.bad(1, Reading.MANY, 3 + 12, join(row(160, S, 3 * n), open));
                Reading.bad(1, Reading.MANY, 3 + 12, join(row(160, S, 255), open, row(252)));
            }
        }
    }

    private static void itemsOfEachSequenceAlone() {
        int[] four = {254, 0, 254, 0, 254, 0, 254, 0};
        int[] inner = join(row(254, Reading.length(11), 160, S, 8), four);
        Reading.good(0, join(row(160, S, Reading.length(52)), inner, inner, inner, inner, row(161, S, 8), four));
        Reading.bad(0, Reading.MANY, 3 + 52, join(row(160, S, Reading.length(54)), inner, inner, inner, inner,
                row(254, 0)));
        Reading.bad(0, Reading.MANY, 3 + 5 + 8, join(row(160, S, 255, 254, 255, 160, S, 255), four, row(254, 0)));
    }

    /** "At most two sequences stand around an element": else 8 DEEP, at the sequence's tag. */
    private static void sequencesAroundAnElement() {
        Reading.good(2, 79, N, 1, 0, 80, T, 0, 159, T, 0);
        Reading.good(1, 160, S, 0);
        Reading.good(1, 160, S, 255, 252);
        Reading.good(1, 160, S, 2, 254, 0);
        int[] inTwo = {160, S, 255, 254, 255, 160, S, 255, 254, 255};
        Reading.bad(0, Reading.DEEP, 10, join(inTwo, row(160, S, 0, 253, 252, 253, 252)));
        Reading.bad(0, Reading.DEEP, 10, join(inTwo, row(200)));
        Reading.bad(0, Reading.DEEP, 13, join(inTwo, row(159, T, 0, 160, S, 0)));
        Reading.good(0, join(inTwo, row(159, T, 0, 253, 252, 253, 252, 161, S, 0)));
        Reading.bad(0, Reading.DEEP, 10, 160, S, Reading.length(10), 254, Reading.length(8), 160, S, Reading.length(5),
                254, Reading.length(3), 160, S, 0);
        // one behind the other is not one in the other
        Reading.good(0, 160, S, 2, 254, 0, 161, S, 2, 254, 0, 162, S, Reading.length(5), 254, Reading.length(3), 160, S,
                0);
    }

    /** "LENGTHS are 0 .. 240, .. or for SEQUENCES and items 255: OPEN." */
    private static void openLengths() {
        Reading.good(1, 160, S, 0);
        Reading.good(1, 160, S, 255, 252);
        Reading.good(1, 160, S, 255, 254, 255, 253, 252);
        Reading.good(1, 160, S, 3, 254, 255, 253);
        Reading.good(1, 160, S, 255, 254, 0, 252);
        for (int length = 241; length <= 254; length++) {
            Reading.bad(1, Reading.LENGTH, 2, 160, S, length, 252);
            Reading.bad(1, Reading.LENGTH, 4, 160, S, 255, 254, length, 253, 252);
        }
    }
}
