/** Promise 14: context. */
public final class Promise14ContextTest {
    public static void main(String[] args) {
        Node x = new Node(1);
        Kit.due("closed", x.context(1), RecordNode.NONE);
        x.open();
        Kit.due("WAITING", x.context(1), RecordNode.NONE);
        Kit.feed(x, Kit.piece(1, 1, 1, 1, 1, 1, 3, 2, 2, 255, 9, 3, 7, 3, 4));
        Kit.due("explicit", x.context(1), 0);
        Kit.due("implicit", x.context(3), 1);
        Kit.due("no such service", x.context(255), 2);
        Kit.due("no syntax", x.context(7), 3);
        for (int id : new int[] {0, 2, 5, 9, -1, 256, 257, 511, Integer.MAX_VALUE, Integer.MIN_VALUE}) {
            Kit.due("context(" + id + ")", x.context(id), RecordNode.NONE);
        }
        Kit.feed(x, Kit.piece(5));
        Kit.due("ENDING", x.context(1), RecordNode.NONE);
        x.close();
        Kit.due("closed again", x.context(1), RecordNode.NONE);
        x.open();
        Kit.feed(x, Kit.piece(1, 1, 1, 3, 1, 1));
        Kit.due("the next association", x.context(3), 0);
        Kit.due("without the old context", x.context(1), RecordNode.NONE);
        x = Kit.waiting(1);
        Kit.feed(x, Kit.piece(1, 2, 1, 1, 1, 1));
        Kit.due("refused", x.context(1), RecordNode.NONE);
        Kit.end();
    }
}
