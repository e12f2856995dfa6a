/** Promise 13: state. */
public final class Promise13StateTest {
    public static void main(String[] args) {
        noOther();
        Node x = new Node(2);
        states("new", x, 0, 0, 0, 0, 0, 0, 0, 0);
        x.open();
        states("WAITING", x, 1, 5, 0, 0, 0, 0, 0, 0);
        Kit.feed(x, 1, 14, 1);
        x.tick();
        states("part of a request", x, 1, 4, 0, 3, 0, 0, 0, 0);
        int[] request = Kit.usualRequest();
        Kit.feed(x, java.util.Arrays.copyOfRange(request, 3, request.length));
        states("READY", x, 2, 0, 10, 0, 0, 0, 0, 0);
        Kit.feed(x, Kit.join(Kit.data(3, 1, 1, 1, 2), Kit.bytes(4)));
        states("part of a command", x, 2, 0, 10, 1, 0, 3, 0, 0);
        Kit.feed(x, 8, 3, 3, 2, 1, 7, 3, 1, 1);
        states("a command", x, 2, 0, 10, 0, 1, 0, 0, 0);
        Kit.feed(x, Kit.data(3, 0, 80, 2));
        states("part of a set", x, 2, 0, 10, 0, 1, 2, 0, 0);
        Kit.feed(x, Kit.join(Kit.data(3, 2, 2, 65, 66), Kit.bytes(9, 200)));
        states("an answer", x, 2, 0, 26, 2, 0, 0, 1, 1);
        Kit.feed(x, Kit.many(200, 0));
        states("broken off", x, 3, 5, 28, 0, 0, 0, 1, 1);
        x.close();
        states("closed", x, 0, 0, 28, 0, 0, 0, 1, 1);
        x.open();
        Kit.feed(x, Kit.join(request, Kit.command(1, 1, 1, 0)));
        states("an answer that keeps nothing", x, 2, 0, 54, 0, 0, 0, 1, 2);
        endingForgetsTheMessage();
        Kit.end();
    }

    private static void noOther() {
        Node x = Kit.ready(1);
        for (int what : new int[] {-1, 8, 9, Integer.MAX_VALUE, Integer.MIN_VALUE}) {
            Kit.due("state(" + what + ")", x.state(what), RecordNode.NONE);
        }
    }

    private static void states(String when, Node x, int... want) {
        int[] got = new int[8];
        for (int what = 0; what < 8; what++) {
            got[what] = x.state(what);
        }
        Kit.due("states, " + when, got, want);
    }

    private static void endingForgetsTheMessage() {
        Node x = Kit.ready(1);
        Kit.feed(x, Kit.join(Kit.command(3, 2, 1, 1), Kit.data(3, 0, 80, 2), Kit.piece(5)));
        states("ending within a message", x, 3, 5, 2, 0, 0, 0, 0, 0);
    }
}
