import java.util.NoSuchElementException;

/** type, clear and at: the draft when it is empty, full, or asked for what it has not. */
public final class BoundaryDraftTest {
    private static final int[] WRONG_COUNTS = {0, 9, 10, -1, -8, 255, 257, 264, Integer.MAX_VALUE, Integer.MIN_VALUE};

    public static void main(String[] args) {
        theLowestBytesTheHighestFirst();
        oneToEightBytes();
        theyDoNotFit();
        aFullDraft();
        clearOfAnyDraft();
        atTheEnds();
        Kit.end();
    }

    /** "the lowest n bytes of bytes, the highest of these first" */
    private static void theLowestBytesTheHighestFirst() {
        for (int n = 1; n <= 8; n++) {
            Node x = new Node(1);
            Kit.due("type of " + n, x.type(0x8070605040302010L, n), true);
            Kit.due("how many", x.at(-1), n);
            for (int k = 0; k < n; k++) {
                Kit.due("byte " + k + " of " + n, x.at(k), 16 * (n - k));
            }
            Node y = new Node(1);
            Kit.due("type of " + n, y.type(Long.MIN_VALUE, n), true);
            Kit.due("the highest bit", y.at(0), n == 8 ? 128 : 0);
            Kit.due("type of " + n, y.type(-1L, n), true);
            Kit.due("the first of them", y.at(n), 255);
            Kit.due("the last of them", y.at(2 * n - 1), 255);
        }
    }

    /** "false when n is not 1 .. 8": and the draft is as before. */
    private static void oneToEightBytes() {
        for (int n : WRONG_COUNTS) {
            Node x = new Node(1);
            Kit.due("type of " + n + " into nothing", x.type(-1L, n), false);
            Kit.due("nothing came", x.at(-1), 0);
            Kit.type(x, 1, 2, 3);
            Kit.due("type of " + n, x.type(-1L, n), false);
            Kit.due("the draft stays", Kit.draft(x), 1, 2, 3);
            Kit.type(x, 4);
            Kit.due("it goes on behind", Kit.draft(x), 1, 2, 3, 4);
        }
    }

    /** "or they do not fit": not even a part of them is appended. */
    private static void theyDoNotFit() {
        for (int left = 1; left <= 7; left++) {
            for (int n = left + 1; n <= 8; n++) {
                Node x = new Node(1);
                Kit.type(x, Kit.many(120 - left, 5));
                Kit.due(n + " where " + left + " fit", x.type(-1L, n), false);
                Kit.due("nothing came", x.at(-1), 120 - left);
                Kit.due(left + " where as many fit", x.type(0x0706050403020100L, left), true);
                Kit.due("full", x.at(-1), 120);
                Kit.due("the byte before", x.at(119 - left), 5);
                Kit.due("the first of them", x.at(120 - left), left - 1);
                Kit.due("the last of them", x.at(119), 0);
            }
        }
    }

    /** "the draft (of at most 120 bytes)" */
    private static void aFullDraft() {
        Node x = new Node(1);
        for (int i = 0; i < 15; i++) {
            Kit.due("eight more", x.type(0x1111111111111100L + i, 8), true);
        }
        Kit.due("full", x.at(-1), 120);
        for (int n = 1; n <= 8; n++) {
            Kit.due(n + " more", x.type(-1L, n), false);
        }
        for (int n : WRONG_COUNTS) {
            Kit.due("a wrong count of " + n, x.type(-1L, n), false);
        }
        Kit.due("still full", x.at(-1), 120);
        for (int i = 0; i < 15; i++) {
            Kit.due("each eighth byte", x.at(8 * i + 7), i);
        }
    }

    /** "The draft is empty": also one that was, and all its room is there again. */
    private static void clearOfAnyDraft() {
        Node x = new Node(1);
        x.clear();
        Kit.due("an empty draft", x.at(-1), 0);
        Kit.due("an empty set", x.check(0), 0);
        for (int size = 1; size <= 120; size += 119) {
            Kit.type(x, Kit.many(size, 6));
            x.clear();
            Kit.due("cleared", x.at(-1), 0);
            Kit.dueThrows("at(0) of a cleared draft", NoSuchElementException.class, () -> x.at(0));
            Kit.due("an empty set", x.check(1), 0);
        }
        x.clear();
        Kit.due("cleared twice", x.at(-1), 0);
        Kit.type(x, Kit.many(120, 7));
        Kit.due("full again", x.at(119), 7);
    }

    /** "or for k = -1 how many there are. NoSuchElementException when there is none." */
    private static void atTheEnds() {
        for (int size : new int[] {0, 1, 2, 8, 119, 120}) {
            Node x = new Node(1);
            Kit.type(x, Kit.many(size, 200));
            Kit.due("how many", x.at(-1), size);
            for (int k : new int[] {0, size - 1}) {
                if (k >= 0 && k < size) {
                    Kit.due("at(" + k + ") of " + size, x.at(k), 200);
                }
            }
            for (int k : new int[] {-2, -3, size, size + 1, 120, 121, 255, 256, Integer.MAX_VALUE, Integer.MIN_VALUE}) {
                if (k < -1 || k >= size) {
                    Kit.dueThrows("at(" + k + ") of " + size, NoSuchElementException.class, () -> x.at(k));
                }
            }
            Kit.due("how many stay", x.at(-1), size);
        }
        bytesAreNotNegative();
    }

    /** "(0 .. 255, as all bytes that are answered)" */
    private static void bytesAreNotNegative() {
        for (int value : new int[] {0, 1, 127, 128, 254, 255}) {
            Node x = new Node(1);
            Kit.type(x, value);
            Kit.due("byte " + value, x.at(0), value);
        }
    }
}
