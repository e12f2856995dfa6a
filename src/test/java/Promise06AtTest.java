import java.util.NoSuchElementException;

/** Promise 6: at. */
public final class Promise06AtTest {
    public static void main(String[] args) {
        Node x = new Node(1);
        Kit.due("how many in an empty draft", x.at(-1), 0);
        Kit.dueThrows("at(0) of an empty draft", NoSuchElementException.class, () -> x.at(0));
        Kit.type(x, 0, 127, 128, 255);
        Kit.due("how many", x.at(-1), 4);
        Kit.due("at(0)", x.at(0), 0);
        Kit.due("at(1)", x.at(1), 127);
        Kit.due("at(2)", x.at(2), 128);
        Kit.due("at(3)", x.at(3), 255);
        int[] wrong = {4, 119, 120, -2, Integer.MAX_VALUE, Integer.MIN_VALUE};
        for (int k : wrong) {
            Kit.dueThrows("at(" + k + ")", NoSuchElementException.class, () -> x.at(k));
        }
        x.clear();
        Kit.type(x, Kit.many(120, 3));
        Kit.due("the last byte of a full draft", x.at(119), 3);
        Kit.dueThrows("at(120)", NoSuchElementException.class, () -> x.at(120));
        Kit.end();
    }
}
