import java.util.Arrays;

/** READING: each fault with its place, what ends instead of it, and which of two is told. */
public final class BoundaryFaultsTest {
    private static final int N = Reading.N;
    private static final int T = Reading.T;
    private static final int S = Reading.S;

    public static void main(String[] args) {
        endAtAKind();
        endAtALength();
        endInAnOpenItem();
        endInAnOpenSequence();
        endOfTheNearestLength();
        whereASetMayEnd();
        mark253();
        mark252();
        lengthBeyondTheEnd();
        lengthBeyondTheNearestEnd();
        tagBeforeManyBeforeDeep();
        inTheOrderOfItsBytes();
        theFirstFaultIsTold();
        farPlaces();
        Kit.end();
    }

    private static int[] join(int[]... rows) {
        return Kit.join(rows);
    }

    private static int[] row(int... marks) {
        return marks;
    }

    /** "1 END .. a byte is missing where one of those named would have to come": a kind. */
    private static void endAtAKind() {
        Reading.badIn(Kit.EXPLICIT, 2, Reading.END, 1, 1);
        Reading.badIn(Kit.EXPLICIT, 2, Reading.END, 1, 159);
        Reading.badIn(Kit.EXPLICIT, 1, Reading.END, 1, 200);
        Reading.badIn(Kit.EXPLICIT, 2, Reading.END, 5, 1, N, 1, 0, 2);
        Reading.badIn(Kit.EXPLICIT, 2, Reading.END, 4, 80, T, 0, 81);
        Reading.badIn(Kit.EXPLICIT, 1, Reading.END, 4, 160, S, 0, 161);
    }

    /** "1 END": a length, of an element or of an item. */
    private static void endAtALength() {
        Reading.bad(2, Reading.END, 2, 1, N);
        Reading.bad(2, Reading.END, 2, 159, T);
        Reading.bad(1, Reading.END, 2, 200, S);
        Reading.bad(2, Reading.END, 6, 1, N, 1, 0, 2, N);
        Reading.bad(1, Reading.END, 4, 160, S, 255, 254);
        Reading.bad(1, Reading.END, 4, 160, S, 1, 254);
        Reading.bad(1, Reading.END, 6, 160, S, 255, 254, 0, 254);
        Reading.bad(1, Reading.END, 6, 160, S, 3, 254, 0, 254);
    }

    /** "1 END": a tag, or the 253 of an open item. */
    private static void endInAnOpenItem() {
        Reading.bad(1, Reading.END, 5, 160, S, 255, 254, 255);
        Reading.bad(1, Reading.END, 5, 160, S, 2, 254, 255);
        Reading.bad(1, Reading.END, 8, 160, S, 255, 254, 255, 80, T, 0);
        Reading.bad(1, Reading.END, 8, 160, S, Reading.length(5), 254, 255, 80, T, 0);
        Reading.bad(1, Reading.END, 9, 160, S, 255, 254, 255, 1, N, 1, 7);
        int[] full = join(row(160, S, 255, 254, 255), Reading.tenTexts(80));
        Reading.bad(1, Reading.END, full.length, full);
    }

    /** "1 END": an item, or the 252 of an open sequence. */
    private static void endInAnOpenSequence() {
        Reading.bad(1, Reading.END, 3, 160, S, 255);
        Reading.bad(1, Reading.END, 5, 160, S, 255, 254, 0);
        Reading.bad(1, Reading.END, 6, 160, S, 255, 254, 255, 253);
        Reading.bad(1, Reading.END, 11, 160, S, 255, 254, 0, 254, 0, 254, 0, 254, 0);
    }

    /** "at the end (of the nearest length around that is not open)", though more is there. */
    private static void endOfTheNearestLength() {
        // the item ends, and the sequence goes on
        Reading.bad(1, Reading.END, 6, 160, S, Reading.length(5), 254, 1, 80, 253, 252);
        Reading.bad(1, Reading.END, 6, 160, S, 255, 254, 1, 80, T, 0, 252);
        Reading.bad(0, Reading.END, 7, 160, S, 255, 254, Reading.length(2), 160, S, 0, 252);
        Reading.bad(0, Reading.END, 8, 160, S, 255, 254, Reading.length(3), 160, S, 255, 252, 252);
        // the sequence ends, and the set goes on
        Reading.bad(1, Reading.END, 5, 160, S, 2, 254, 255, 253, 161, S, 0);
        Reading.bad(1, Reading.END, 4, 160, S, 1, 254, 0, 161, S, 0);
        // two open lengths within one that is not
        Reading.bad(0, Reading.END, 11, 160, S, 255, 254, Reading.length(6), 160, S, 255, 254, 255, 253, 252, 252);
        Reading.bad(0, Reading.END, 10, 160, S, Reading.length(7), 254, 255, 160, S, 255, 254, 255, 253, 252, 253);
        // none but what is read
        Reading.bad(0, Reading.END, 10, 160, S, 255, 254, 255, 160, S, 255, 254, 255);
        // the inner one is nearer than the outer one, whatever stood before
        Reading.bad(0, Reading.END, 12, 160, S, Reading.length(12), 254, 0, 254, Reading.length(8), 160, S, 2, 254, 255,
                161, S, 0);
    }

    /** "and nothing may end there": an item, a sequence and what is read may, between elements. */
    private static void whereASetMayEnd() {
        Reading.good(2);
        Reading.good(2, 1, N, 1, 0);
        Reading.good(1, 160, S, 2, 254, 0);
        Reading.good(1, 160, S, Reading.length(5), 254, Reading.length(3), 80, T, 0);
        Reading.good(1, 160, S, Reading.length(8), 254, Reading.length(3), 80, T, 0, 254, 255, 253, 161, S, 0);
    }

    /** "(in an open item 253 ends the set instead)": nowhere else. */
    private static void mark253() {
        Reading.badIfNotOpen(2, Reading.TAG, 0, 253);
        Reading.badIfNotOpen(2, Reading.TAG, 3, 80, T, 0, 253, 252);
        Reading.good(1, 160, S, 255, 254, 255, 253, 252);
        Reading.good(1, 160, S, 255, 254, 255, 80, T, 0, 253, 252);
        // also where an eleventh element would come
        Reading.good(1, join(row(160, S, 255, 254, 255), Reading.tenTexts(80), row(253, 252)));
        // a set that is not open, in one that is
        Reading.bad(0, Reading.TAG, 10, 160, S, 255, 254, 255, 160, S, 255, 254, 1, 253, 252, 253, 252);
        // a sequence is no item
        Reading.bad(1, Reading.ITEM, 3, 160, S, 255, 253);
        Reading.bad(1, Reading.ITEM, 6, 160, S, 255, 254, 255, 253, 253);
        Reading.bad(1, Reading.ITEM, 3, 160, S, 1, 253);
    }

    /** "(in an open sequence 252 ends it instead)": nowhere else. */
    private static void mark252() {
        Reading.bad(2, Reading.TAG, 0, 252);
        Reading.bad(1, Reading.TAG, 5, 160, S, 255, 254, 255, 252);
        Reading.bad(1, Reading.TAG, 5, 160, S, 255, 254, 1, 252, 252);
        Reading.good(1, 160, S, 255, 252);
        Reading.good(1, 160, S, 255, 254, 0, 252);
        // also where a fifth item would come
        Reading.good(1, 160, S, 255, 254, 0, 254, 0, 254, 0, 254, 0, 252);
        // a sequence that is not open, in one that is
        Reading.bad(1, Reading.ITEM, 3, 160, S, 1, 252);
        Reading.bad(1, Reading.ITEM, 5, 160, S, 3, 254, 0, 252);
        Reading.bad(0, Reading.ITEM, 8, 160, S, 255, 254, 255, 160, S, 1, 252, 253, 252);
        for (int other = 0; other <= 255; other++) {
            if (other < 252) {
                Reading.bad(0, Reading.ITEM, 3, 160, S, 255, other, 252);
                Reading.bad(0, Reading.ITEM, 3, 160, S, 1, other);
            }
        }
        Reading.bad(1, Reading.ITEM, 3, 160, S, 255, 255);
    }

    /** "4 LENGTH .. or goes beyond the end": one byte too few, and just enough. */
    private static void lengthBeyondTheEnd() {
        for (int length = 1; length <= 4; length++) {
            Reading.good(2, join(row(9, N, length), Kit.many(length, 5)));
            Reading.bad(2, Reading.LENGTH, 2, join(row(9, N, length), Kit.many(length - 1, 5)));
        }
        for (int length = 2; length <= 16; length += 2) {
            Reading.good(2, join(row(90, T, length), Kit.many(length, 65)));
            Reading.bad(2, Reading.LENGTH, 2, join(row(90, T, length), Kit.many(length - 1, 65)));
        }
        Reading.bad(1, Reading.LENGTH, 2, 160, S, 1);
        Reading.good(1, 160, S, 2, 254, 0);
        Reading.bad(1, Reading.LENGTH, 2, 160, S, 3, 254, 0);
        Reading.bad(1, Reading.LENGTH, 2, 160, S, 240, 254, 0);
        Reading.bad(1, Reading.LENGTH, 4, 160, S, 2, 254, 1);
        Reading.bad(1, Reading.LENGTH, 4, 160, S, 255, 254, 1);
        Reading.bad(1, Reading.LENGTH, 4, 160, S, 255, 254, 240, 80, T, 0);
    }

    /** "within the nearest length around that is not open": what lies behind it does not help. */
    private static void lengthBeyondTheNearestEnd() {
        // an item beyond its sequence, though the set goes on
        Reading.bad(1, Reading.LENGTH, 4, 160, S, 2, 254, 1, 161, S, 0);
        // an element beyond its item, though the sequence goes on
        Reading.bad(1, Reading.LENGTH, 7, 160, S, 255, 254, Reading.length(4), 80, T, 2, 65, 65, 252);
        Reading.bad(1, Reading.LENGTH, 7, 160, S, Reading.length(9), 254, Reading.length(4), 1, N, 2, 65, 254, 255, 253);
        Reading.good(1, 160, S, 255, 254, Reading.length(5), 80, T, 2, 65, 65, 252);
        // an element in an open item beyond the sequence
        Reading.bad(1, Reading.LENGTH, 7, 160, S, Reading.length(6), 254, 255, 80, T, 2, 65, 65, 253);
        // a sequence beyond its item
        Reading.bad(0, Reading.LENGTH, 7, 160, S, 255, 254, Reading.length(4), 160, S, 2, 254, 0, 252);
        // an item in an open sequence beyond the item around this one
        Reading.bad(0, Reading.LENGTH, 9, 160, S, 255, 254, Reading.length(5), 160, S, 255, 254, 1, 252, 252);
        // an open item may take what an item that is not open may not
        Reading.good(1, 160, S, 255, 254, 255, 80, T, 2, 65, 65, 253, 252);
    }

    /** "at its tag 2 before 7 before 8" */
    private static void tagBeforeManyBeforeDeep() {
        int[] ten = Reading.tenTexts(80);
        Reading.bad(2, Reading.TAG, 30, join(ten, row(89, T, 0)));
        Reading.bad(2, Reading.TAG, 30, join(ten, row(0)));
        Reading.bad(2, Reading.TAG, 30, join(ten, row(201)));
        Reading.badIfNotOpen(2, Reading.TAG, 30, join(ten, row(253)));
        Reading.bad(2, Reading.MANY, 30, join(ten, row(90)));
        int[] inTwo = {160, S, 255, 254, 255, 160, S, 255, 254, 255};
        Reading.bad(0, Reading.MANY, 40, join(inTwo, ten, row(160)));
        Reading.bad(0, Reading.DEEP, 37, join(inTwo, Arrays.copyOf(ten, 27), row(160)));
        Reading.bad(0, Reading.TAG, 40, join(inTwo, ten, row(201)));
        Reading.bad(0, Reading.TAG, 10, join(inTwo, row(201)));
        Reading.bad(0, Reading.DEEP, 10, join(inTwo, row(200)));
    }

    /** "Of one element they are tested in the order of its bytes" */
    private static void inTheOrderOfItsBytes() {
        Reading.bad(2, Reading.TAG, 0, 0);
        Reading.badIn(Kit.EXPLICIT, 2, Reading.TAG, 0, 0, 9, 99);
        Reading.badIn(Kit.EXPLICIT, 2, Reading.KIND, 1, 80, 1);
        Reading.badIn(Kit.EXPLICIT, 2, Reading.KIND, 1, 80, 1, 99, 0);
        Reading.bad(2, Reading.LENGTH, 2, 80, T, 3, 31, 31, 31);
        Reading.bad(2, Reading.LENGTH, 2, 80, T, 4, 31, 31, 31);
        Reading.bad(2, Reading.VALUE, 3, 80, T, 2, 31, 31, 0);
        Reading.badIn(Kit.EXPLICIT, 2, Reading.MANY, 30, join(Reading.tenTexts(80), row(90, 9, 99)));
        int[] fourItems = {160, S, 255, 254, 0, 254, 0, 254, 0, 254, 0};
        Reading.bad(1, Reading.MANY, 11, join(fourItems, row(254)));
        Reading.bad(1, Reading.MANY, 11, join(fourItems, row(254, 250)));
        Reading.bad(1, Reading.ITEM, 11, join(fourItems, row(250)));
        Reading.bad(1, Reading.ITEM, 11, join(fourItems, row(255)));
    }

    /** "READING goes from left to right and ends with the first FAULT" */
    private static void theFirstFaultIsTold() {
        Reading.bad(2, Reading.LENGTH, 2, 1, N, 0, 0, N, 0);
        Reading.bad(2, Reading.VALUE, 3, 80, T, 2, 32, 32, 80, T, 2, 32, 32);
        Reading.bad(1, Reading.ITEM, 3, 160, S, 1, 1, 160, S, 1, 1);
        Reading.bad(1, Reading.LENGTH, 7, 160, S, Reading.length(5), 254, Reading.length(3), 1, N, 0, 1, N, 0);
        // the length of a sequence is looked at before what is inside it
        Reading.bad(1, Reading.LENGTH, 2, 160, S, 9, 254, 9, 0);
        Reading.bad(1, Reading.LENGTH, 4, 160, S, 3, 254, 9, 0);
    }

    /** The last byte of a full draft, and the place behind it. */
    private static void farPlaces() {
        int[] texts = new int[0];
        for (int tag = 80; tag < 86; tag++) {
            texts = join(texts, row(tag, 16), Kit.many(16, 65));
        }
        int[] of118 = join(texts, row(90, 8), Kit.many(8, 65));
        int[] of119 = join(row(1, 1, 1), texts, row(90, 6), Kit.many(6, 65));
        full("no fault", 0, join(of118, row(91, 0)));
        full("a length", Reading.LENGTH + 16 * 119, join(of118, row(91, 1)));
        full("a tag", Reading.TAG + 16 * 119, join(of119, row(90)));
        full("a missing length", Reading.END + 16 * 120, join(of119, row(91)));
    }

    private static void full(String what, int want, int[] bytes) {
        Node x = new Node(1);
        Kit.type(x, bytes);
        Kit.due("a full draft", x.at(-1), 120);
        Kit.due(what + " at its end", x.check(1), want);
    }
}
