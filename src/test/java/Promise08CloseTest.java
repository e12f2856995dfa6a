/** Promise 8: close. */
public final class Promise08CloseTest {
    public static void main(String[] args) {
        Node x = new Node(1);
        Kit.due("close of a closed line", x.close(), false);
        x.open();
        Kit.due("close in WAITING", x.close(), true);
        Kit.due("closed", x.state(0), Kit.CLOSED);
        Kit.due("no timer", x.state(1), 0);
        Kit.due("close again", x.close(), false);
        x.open();
        Kit.feed(x, Kit.usualRequest());
        Kit.feed(x, Kit.join(Kit.command(3, 2, 1, 1), Kit.data(3, 0, 1, 2, 3), Kit.bytes(4, 9)));
        Kit.due("close in READY", x.close(), true);
        for (int what : new int[] {0, 1, 3, 4, 5}) {
            Kit.due("state(" + what + ") of a closed line", x.state(what), 0);
        }
        Kit.due("the output stays", Kit.takeAll(x), Kit.piece(2, 1, 0, 3, 0, 5, 0, 7, 1));
        x.open();
        Kit.feed(x, Kit.piece(9));
        Kit.due("ENDING", x.state(0), Kit.ENDING);
        Kit.due("close in ENDING", x.close(), true);
        Kit.due("closed", x.state(0), Kit.CLOSED);
        Kit.due("the output stays", Kit.takeAll(x), 7, 0);
        Kit.end();
    }
}
