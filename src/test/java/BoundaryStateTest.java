import java.util.NoSuchElementException;

/** open, close, state, context and record: what they answer at the ends of what there is. */
public final class BoundaryStateTest {
    public static void main(String[] args) {
        aNewObject();
        openOfALineThatIsNotClosed();
        closeOfAClosedLine();
        noOtherStates();
        whatIsWantedOnlyInReady();
        messagesAreCounted();
        contextsByTheirIds();
        contextsOnlyInReady();
        contextsOfThisAssociation();
        recordsAndBytes();
        oneOrManyRecords();
        Kit.end();
    }

    /** "The line is closed, the output empty, the draft .. empty", and no record is there. */
    private static void aNewObject() {
        for (int room : new int[] {Integer.MIN_VALUE, 0, 1, 8, 9, Integer.MAX_VALUE}) {
            Node x = new Node(room);
            for (int what = 0; what <= 7; what++) {
                Kit.due("state(" + what + ") of a new object", x.state(what), 0);
            }
            Kit.due("its draft", x.at(-1), 0);
            Kit.due("an empty set", x.check(0), 0);
            Kit.dueThrows("its output", NoSuchElementException.class, x::take);
            none(x, 0, -1);
            for (int id = -1; id <= 256; id++) {
                Kit.due("its context " + id, x.context(id), RecordNode.NONE);
            }
        }
    }

    private static Node in(int state) {
        Node x = state == Kit.WAITING ? Kit.waiting(2) : Kit.ready(2);
        if (state == Kit.ENDING) {
            Kit.feed(x, Kit.piece(5));
        } else if (state == Kit.CLOSED) {
            x.close();
        }
        Kit.due("the state", x.state(0), state);
        return x;
    }

    /** "false when it is not closed": and it goes on as before. */
    private static void openOfALineThatIsNotClosed() {
        for (int state = 0; state <= 3; state++) {
            Node x = in(state);
            int tick = x.tick();
            Kit.feed(x, state == Kit.CLOSED ? Kit.bytes() : Kit.bytes(9, 3, 1));
            Kit.due("open", x.open(), state == Kit.CLOSED);
            Kit.due("the state", x.state(0), state == Kit.CLOSED ? Kit.WAITING : state);
            Kit.due("the timer", x.state(1), state == Kit.CLOSED ? 5 : tick);
            Kit.due("the input", x.state(3), state == Kit.CLOSED ? 0 : 3);
            Kit.due("open again", x.open(), false);
        }
    }

    /** "false when it is closed" */
    private static void closeOfAClosedLine() {
        Kit.due("close of a new object", new Node(1).close(), false);
        for (int state = 0; state <= 3; state++) {
            Node x = in(state);
            int output = x.state(2);
            Kit.due("close", x.close(), state != Kit.CLOSED);
            Kit.due("closed", x.state(0), Kit.CLOSED);
            Kit.due("no timer", x.state(1), 0);
            Kit.due("nothing is written", x.state(2), output);
            Kit.due("close again", x.close(), false);
            Kit.due("open", x.open(), true);
            Kit.due("close", x.close(), true);
        }
    }

    /** "NONE for another what" */
    private static void noOtherStates() {
        int[] others = {-1, -2, 8, 9, 16, 255, 256, 257, Integer.MAX_VALUE, Integer.MIN_VALUE};
        for (int state = 0; state <= 3; state++) {
            Node x = in(state);
            for (int what : others) {
                Kit.due("state(" + what + ")", x.state(what), RecordNode.NONE);
            }
            for (int what = 0; what <= 7; what++) {
                Kit.due("state(" + what + ") is told", x.state(what) >= 0, true);
            }
        }
    }

    /** "4 what is wanted (.. 0 if not READY); 5 how many bytes of it have come (0 if not READY)" */
    private static void whatIsWantedOnlyInReady() {
        int[][] ends = {Kit.piece(5), Kit.piece(9), Kit.bytes(4, 201), Kit.data(3, 1), Kit.data(5, 0),
            Kit.data(3, 0, Kit.many(198, 1)), Kit.piece(7)};
        for (int[] last : ends) {
            Node x = Kit.ready(1);
            Kit.feed(x, Kit.data(3, 1, 1, 1, 2));
            Kit.due("a command is wanted", x.state(4), 0);
            Kit.due("three bytes of it", x.state(5), 3);
            Kit.feed(x, Kit.data(3, 3, 2, 1, 1, 3, 1, 1));
            Kit.due("a set is wanted", x.state(4), 1);
            Kit.due("no bytes of it", x.state(5), 0);
            Kit.feed(x, Kit.data(3, 0, 80, 2, 2, 65));
            Kit.due("a set is wanted still", x.state(4), 1);
            Kit.due("four bytes of it", x.state(5), 4);
            Kit.feed(x, last);
            Kit.due("not READY", x.state(0) == Kit.READY, false);
            Kit.due("nothing is wanted", x.state(4), 0);
            Kit.due("no bytes of it", x.state(5), 0);
        }
    }

    /** "7 how many messages were answered in all (with any status ..)": not those broken off. */
    private static void messagesAreCounted() {
        Node x = Kit.ready(1);
        Kit.feed(x, Kit.command(1, 1, 1, 0));
        Kit.due("status 0", x.state(7), 1);
        Kit.feed(x, Kit.command(1, 2, 1, 0));
        Kit.due("status 2", x.state(7), 2);
        Kit.feed(x, Kit.command(3, 2, 1, 0));
        Kit.due("status 3", x.state(7), 3);
        Kit.store(x);
        Kit.due("status 4", x.state(7), 4);
        Kit.store(x, Kit.text(80, "a"));
        Kit.store(x, Kit.text(80, "b"));
        Kit.due("status 5", x.state(7), 6);
        Kit.feed(x, Kit.join(Kit.command(5, 3, 1, 1), Kit.set(5)));
        Kit.due("two answers to one", x.state(7), 7);
        Kit.feed(x, Kit.command(3, 2, 1, 1));
        Kit.due("a command alone", x.state(7), 7);
        Kit.feed(x, Kit.data(5, 2));
        Kit.due("broken off", x.state(7), 7);
        x.close();
        x.open();
        Kit.due("they stay", x.state(7), 7);
        Kit.feed(x, Kit.join(Kit.usualRequest(), Kit.command(1, 1, 1, 0)));
        Kit.due("in all", x.state(7), 8);
        Kit.due("records stay too", x.state(6), 1);
    }

    /** "NONE when .. there is none" */
    private static void contextsByTheirIds() {
        Node x = Kit.waiting(1);
        Kit.feed(x, Kit.piece(1, 1, 1, 255, 1, 1, 1, 2, 2, 127, 9, 3, 129, 3, 4));
        for (int id = 0; id <= 255; id++) {
            int want = id == 255 ? 0 : id == 1 ? 1 : id == 127 ? 2 : id == 129 ? 3 : RecordNode.NONE;
            Kit.due("context(" + id + ")", x.context(id), want);
        }
        for (int id : new int[] {-1, -127, -255, 256, 257, 511, 513, Integer.MAX_VALUE, Integer.MIN_VALUE}) {
            Kit.due("context(" + id + ")", x.context(id), RecordNode.NONE);
        }
    }

    /** "NONE when it is not READY" */
    private static void contextsOnlyInReady() {
        for (int state = 0; state <= 3; state++) {
            Node x = in(state);
            for (int id = 1; id <= 7; id += 2) {
                int result = id == 7 ? 1 : 0;
                Kit.due("context(" + id + ")", x.context(id), state == Kit.READY ? result : RecordNode.NONE);
            }
            Kit.due("no such context", x.context(9), RecordNode.NONE);
        }
    }

    /** "in this association": not of one before, nor of a request that was refused. */
    private static void contextsOfThisAssociation() {
        Node x = in(Kit.CLOSED);
        x.open();
        Kit.due("of the one before", x.context(1), RecordNode.NONE);
        Kit.feed(x, Kit.piece(1, 1, 1, 9, 2, 2, 3, 1, 2));
        Kit.due("of this one", x.context(9), 1);
        Kit.due("with another result", x.context(3), 1);
        for (int id = 1; id <= 7; id += 2) {
            if (id != 3) {
                Kit.due("of the one before", x.context(id), RecordNode.NONE);
            }
        }
        x.close();
        x.open();
        Kit.feed(x, Kit.piece(1, 2, 1, 9, 2, 2));
        Kit.due("of a refused one", x.context(9), RecordNode.NONE);
        x.close();
        x.open();
        Kit.feed(x, Kit.piece(1, 1, 1, 5, 2, 2));
        Kit.due("of this one", x.context(5), 1);
        Kit.due("of the refused one", x.context(9), RecordNode.NONE);
        Kit.due("of the one before that", x.context(3), RecordNode.NONE);
    }

    private static void none(Node x, int k, int i) {
        Kit.dueThrows("record(" + k + ", " + i + ")", NoSuchElementException.class, () -> x.record(k, i));
    }

    /** "NoSuchElementException when there is no such record or byte" */
    private static void recordsAndBytes() {
        int[] far = {-2, Integer.MIN_VALUE, Integer.MAX_VALUE};
        Node x = Kit.ready(2);
        for (int i = -2; i <= 1; i++) {
            none(x, 0, i);
            none(x, -1, i);
            none(x, 1, i);
        }
        int[] record = Kit.join(Kit.number(1, -1), Kit.text(80, "ab"));
        Kit.store(x, record);
        Kit.due("how many", x.record(0, -1), record.length);
        for (int i = 0; i < record.length; i++) {
            Kit.due("byte " + i, x.record(0, i), record[i]);
        }
        none(x, 0, record.length);
        none(x, 0, record.length + 1);
        none(x, 0, 198);
        none(x, 0, 199);
        for (int wrong : far) {
            none(x, 0, wrong);
            none(x, wrong, 0);
            none(x, wrong, -1);
        }
        none(x, -1, 0);
        none(x, 1, 0);
        none(x, 1, -1);
        none(x, 2, -1);
        none(x, 8, -1);
        Kit.due("the record stays", Kit.record(x, 0), record);
        Kit.store(x, Kit.text(80, "ab"));
        Kit.due("a shorter one", x.record(0, -1), 5);
        Kit.due("its last byte", x.record(0, 4), 'b');
        none(x, 0, 5);
        none(x, 0, record.length - 1);
    }

    /** "record k (in the order in which they came)": up to the last one of a full node. */
    private static void oneOrManyRecords() {
        for (int n = 1; n <= 8; n++) {
            Node x = Kit.ready(8);
            for (int k = 0; k < n; k++) {
                none(x, k, -1);
                Kit.store(x, Kit.text(80, "" + (char) ('z' - k)));
                Kit.due("how many", x.record(k, -1), 5);
            }
            for (int k = 0; k < n; k++) {
                Kit.due("the name of record " + k, x.record(k, 3), 'z' - k);
            }
            none(x, n, -1);
            none(x, n, 0);
            none(x, -1, -1);
        }
    }
}
