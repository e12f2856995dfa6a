/** Promise 3: clear. */
public final class Promise03ClearTest {
    public static void main(String[] args) {
        Node x = Kit.ready(1);
        x.clear();
        Kit.due("an empty draft stays empty", x.at(-1), 0);
        Kit.type(x, Kit.many(120, 9));
        Kit.feed(x, 4);
        x.clear();
        Kit.due("cleared", x.at(-1), 0);
        Kit.dueThrows("no byte 0", java.util.NoSuchElementException.class, () -> x.at(0));
        Kit.due("the line stays", x.state(0), Kit.READY);
        Kit.due("the input stays", x.state(3), 1);
        Kit.type(x, Kit.many(120, 8));
        Kit.due("all the room is there again", x.at(119), 8);
        Kit.end();
    }
}
