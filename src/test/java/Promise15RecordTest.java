import java.util.NoSuchElementException;

/** Promise 15: record. */
public final class Promise15RecordTest {
    public static void main(String[] args) {
        Node x = Kit.ready(3);
        none(x, 0, -1);
        none(x, 0, 0);
        int[] first = Kit.join(Kit.bytes(1, 1, 4, 200, 0, 0, 0), Kit.text(80, "b"), Kit.bytes(160, 3, 255, 254, 255),
                Kit.number(3, 4), Kit.bytes(253, 252));
        Kit.dueStore("first", x, 0, first);
        Kit.dueStore("second", x, 0, Kit.text(80, "a"));
        Kit.due("how many bytes", x.record(0, -1), 5 + 5 + 9);
        Kit.due("canonical", Kit.record(x, 0), Kit.join(Kit.bytes(1, 1, 2, 200, 0), Kit.text(80, "b"),
                Kit.sequence(160, Kit.number(3, 4))));
        Kit.due("in the order of their coming", Kit.record(x, 1), Kit.text(80, "a"));
        none(x, 0, 19);
        none(x, 0, -2);
        none(x, 1, 5);
        none(x, 2, -1);
        none(x, 2, 0);
        none(x, -1, -1);
        none(x, -1, 0);
        none(x, Integer.MAX_VALUE, 0);
        none(x, Integer.MIN_VALUE, 0);
        none(x, 0, Integer.MAX_VALUE);
        none(x, 0, Integer.MIN_VALUE);
        x.close();
        Kit.due("records outlive the line", x.record(1, 3), 'a');
        Kit.end();
    }

    private static void none(Node x, int k, int i) {
        Kit.dueThrows("record(" + k + ", " + i + ")", NoSuchElementException.class, () -> x.record(k, i));
    }
}
