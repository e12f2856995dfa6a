import java.util.NoSuchElementException;

/** Promise 12: take. */
public final class Promise12TakeTest {
    public static void main(String[] args) {
        Node x = new Node(1);
        Kit.dueThrows("take of nothing", NoSuchElementException.class, x::take);
        x.open();
        Kit.dueThrows("take of nothing in WAITING", NoSuchElementException.class, x::take);
        Kit.feed(x, Kit.piece(1, 1, 1, 255, 1, 1));
        Kit.due("type", x.take(), 2);
        Kit.due("three left", x.state(2), 3);
        Kit.due("length", x.take(), 2);
        Kit.feed(x, Kit.piece(5));
        Kit.due("the first ones come first", x.take(), 255);
        x.close();
        Kit.due("closing keeps them", x.take(), 0);
        Kit.due("6", x.take(), 6);
        Kit.due("0", x.take(), 0);
        Kit.dueThrows("take of nothing again", NoSuchElementException.class, x::take);
        Kit.due("none left", x.state(2), 0);
        Kit.due("take changes nothing else", x.state(0), Kit.CLOSED);
        Kit.end();
    }
}
