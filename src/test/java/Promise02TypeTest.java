/** Promise 2: type. */
public final class Promise02TypeTest {
    public static void main(String[] args) {
        lowestBytesHighestFirst();
        wrongCounts();
        roomOf120();
        Kit.end();
    }

    private static void lowestBytesHighestFirst() {
        Node x = new Node(1);
        Kit.due("type of three", x.type(0x1122334455667788L, 3), true);
        Kit.due("three bytes", Kit.draft(x), 0x66, 0x77, 0x88);
        Kit.due("type of eight", x.type(-2L, 8), true);
        Kit.due("eight bytes behind", Kit.draft(x), 0x66, 0x77, 0x88, 255, 255, 255, 255, 255, 255, 255, 254);
        Kit.due("type of one", x.type(0x1FFL, 1), true);
        Kit.due("a byte as 0 .. 255", x.at(11), 255);
    }

    private static void wrongCounts() {
        Node x = new Node(1);
        int[] wrong = {0, 9, -1, Integer.MIN_VALUE, Integer.MAX_VALUE};
        for (int n : wrong) {
            Kit.due("type with n = " + n, x.type(1, n), false);
        }
        Kit.due("the draft afterwards", x.at(-1), 0);
    }

    private static void roomOf120() {
        Node x = new Node(1);
        Kit.type(x, Kit.many(118, 7));
        Kit.due("three more", x.type(0x010203L, 3), false);
        Kit.due("nothing of them", x.at(-1), 118);
        Kit.due("two more", x.type(0x0102L, 2), true);
        Kit.due("full", x.at(-1), 120);
        Kit.due("one more", x.type(1, 1), false);
        Kit.due("last byte", x.at(119), 2);
    }
}
