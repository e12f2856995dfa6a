/** Promise 10: send. */
public final class Promise10SendTest {
    public static void main(String[] args) {
        Node x = new Node(1);
        Kit.due("send of nothing on a closed line", x.send(), false);
        int[] both = Kit.join(Kit.usualRequest(), Kit.command(1, 1, 2, 0), Kit.bytes(4, 9));
        Kit.type(x, both);
        Kit.due("send on a closed line", x.send(), false);
        Kit.due("nothing came", x.state(3), 0);
        x.open();
        Kit.due("send", x.send(), true);
        Kit.due("READY", x.state(0), Kit.READY);
        Kit.due("the rest waits", x.state(3), 2);
        Kit.due("both pieces", Kit.takeAll(x), Kit.join(Kit.piece(2, 1, 0, 3, 0, 5, 0, 7, 1), Kit.answer(1, 1, 2, 0, 0)));
        Kit.due("the draft stays", Kit.draft(x), both);
        x.clear();
        Kit.due("send of nothing", x.send(), true);
        Kit.due("nothing more waits", x.state(3), 2);
        Kit.retype(x, 1, 3, 1, 1, 9, 2, 1, 7, 3);
        Kit.due("a piece that began before", x.send(), true);
        Kit.due("bad command: ENDING", x.state(0), Kit.ENDING);
        Kit.retype(x, Kit.join(Kit.piece(7), Kit.bytes(1, 2, 3)));
        Kit.due("send that closes", x.send(), true);
        Kit.due("closed", x.state(0), Kit.CLOSED);
        Kit.due("the rest is lost", x.state(3), 0);
        Kit.due("the draft stays", x.at(-1), 5);
        Kit.due("send on the closed line", x.send(), false);
        sendsAFullDraft();
        Kit.end();
    }

    private static void sendsAFullDraft() {
        Node x = Kit.ready(1);
        Kit.type(x, Kit.join(Kit.bytes(4, 120, 1, 1), Kit.many(116, 5)));
        Kit.due("send of 120 bytes", x.send(), true);
        Kit.due("they wait", x.state(3), 120);
        Kit.feed(x, 5, 5);
        Kit.due("a fragment of 118", x.state(5), 118);
    }
}
