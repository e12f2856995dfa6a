/** Promise 1: a new object, and the room that is clamped to 1 .. 8. */
public final class Promise01NewObjectTest {
    public static void main(String[] args) {
        isEmptyAndClosed();
        keepsAsManyAs(1, Integer.MIN_VALUE);
        keepsAsManyAs(1, -1);
        keepsAsManyAs(1, 0);
        keepsAsManyAs(1, 1);
        keepsAsManyAs(2, 2);
        keepsAsManyAs(7, 7);
        keepsAsManyAs(8, 8);
        keepsAsManyAs(8, 9);
        keepsAsManyAs(8, Integer.MAX_VALUE);
        objectsShareNothing();
        Kit.due("NONE", RecordNode.NONE, -1);
        Kit.end();
    }

    private static void isEmptyAndClosed() {
        Node x = new Node(3);
        for (int what = 0; what <= 7; what++) {
            Kit.due("state(" + what + ") of a new object", x.state(what), 0);
        }
        Kit.due("the draft of a new object", x.at(-1), 0);
        Kit.dueThrows("take of a new object", java.util.NoSuchElementException.class, x::take);
    }

    private static void keepsAsManyAs(int want, int room) {
        Node x = Kit.ready(room);
        for (int k = 0; k < want; k++) {
            Kit.dueStore("record " + k + " in room " + room, x, 0, Kit.text(80, "r" + k));
        }
        Kit.dueStore("one too many in room " + room, x, 5, Kit.text(80, "more"));
        Kit.due("records in room " + room, x.state(6), want);
    }

    private static void objectsShareNothing() {
        Node x = Kit.ready(1);
        Kit.dueStore("store", x, 0, Kit.text(80, "a"));
        Kit.type(x, 1, 2, 3);
        Node y = new Node(1);
        Kit.due("records of another object", y.state(6), 0);
        Kit.due("draft of another object", y.at(-1), 0);
        Kit.due("line of another object", y.state(0), Kit.CLOSED);
    }
}
