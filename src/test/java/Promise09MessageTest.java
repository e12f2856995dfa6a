/** Promise 9 again: fragments, commands, and the answers of ECHO, STORE and FIND. */
public final class Promise09MessageTest {
    public static void main(String[] args) {
        fragmentsMakeUpParts();
        emptyFragments();
        fragmentsThatDoNotBelong();
        partsOf200Bytes();
        commandsThatAreNone();
        commandsThatAre();
        wrongKind();
        echo();
        storeStatuses();
        storeTakesThePlace();
        storeSizes();
        storeOfImplicitSets();
        Kit.end();
    }

    private static void brokenOff(String what, Node x) {
        Kit.due(what + ": ENDING", x.state(0), Kit.ENDING);
        Kit.due(what + ": what is written", Kit.takeAll(x), 7, 0);
        Kit.due(what + ": nothing wanted", x.state(4), 0);
        Kit.due(what + ": no bytes of it", x.state(5), 0);
    }

    private static void fragmentsMakeUpParts() {
        Node x = Kit.ready(1);
        Kit.feed(x, Kit.join(Kit.data(3, 1, 1, 1, 2, 2), Kit.data(3, 1, 2, 1)));
        Kit.due("bytes of the command", x.state(5), 6);
        Kit.feed(x, Kit.data(3, 3, 1, 3, 1, 1));
        Kit.due("a set is wanted", x.state(4), 1);
        Kit.due("bytes of the set", x.state(5), 0);
        Kit.feed(x, Kit.join(Kit.data(3, 0, 80), Kit.data(3, 0, 2, 2), Kit.data(3, 2, 65, 66)));
        Kit.due("a command is wanted", x.state(4), 0);
        Kit.due("nothing of it", x.state(5), 0);
        Kit.due("answer", Kit.takeAll(x), Kit.data(3, 3, 1, 1, 18, 2, 2, 1, 1, 3, 1, 0, 4, 1, 0));
        Kit.due("record", Kit.record(x, 0), Kit.text(80, "AB"));
    }

    private static void emptyFragments() {
        Node x = Kit.ready(1);
        Kit.feed(x, Kit.data(1, 1));
        Kit.due("no bytes", x.state(5), 0);
        Kit.feed(x, Kit.data(3, 1));
        brokenOff("another context behind an empty fragment", x);
        x = Kit.ready(1);
        Kit.feed(x, Kit.join(Kit.data(5, 1), Kit.data(5, 1, 1, 1, 3, 2, 1, 8, 3, 1, 1), Kit.data(5, 3), Kit.data(5, 0)));
        Kit.due("a set is wanted", x.state(4), 1);
        Kit.feed(x, Kit.data(5, 2));
        Kit.due("an empty set", Kit.takeAll(x), Kit.answer(5, 3, 8, 0, 0));
        x = Kit.ready(1);
        Kit.feed(x, Kit.data(1, 3));
        brokenOff("an empty command", x);
    }

    private static void fragmentsThatDoNotBelong() {
        int[] command = Kit.command(3, 2, 1, 1);
        breaks("a set first", Kit.data(3, 0, 1));
        breaks("a last set first", Kit.data(3, 2));
        breaks("a command for a set", Kit.join(command, Kit.command(3, 2, 1, 1)));
        breaks("a set in a command", Kit.join(Kit.data(3, 1, 1), Kit.data(3, 0, 1)));
        breaks("another context in a command", Kit.join(Kit.data(3, 1, 1), Kit.data(1, 1, 1)));
        breaks("another context for the set", Kit.join(command, Kit.data(5, 0, 1)));
        breaks("another context in the set", Kit.join(command, Kit.data(3, 0, 1), Kit.data(5, 2)));
        breaks("no such context", Kit.data(9, 3, 1, 1, 1, 2, 1, 1, 3, 1, 0));
        breaks("an even context", Kit.data(0, 3, 1, 1, 1, 2, 1, 1, 3, 1, 0));
        breaks("flags 4", Kit.data(1, 4));
        breaks("flags 7", Kit.data(1, 7, 1, 1, 1, 2, 1, 1, 3, 1, 0));
        breaks("flags 255", Kit.data(1, 255));
        breaks("no bytes", Kit.piece(4));
        breaks("one byte", Kit.piece(4, 1));
        for (int result = 2; result <= 3; result++) {
            Node x = Kit.waiting(1);
            Kit.feed(x, Kit.piece(1, 1, 1, 1, result == 2 ? 9 : 1, result == 2 ? 1 : 4));
            Kit.takeAll(x);
            Kit.due("result", x.context(1), result);
            Kit.feed(x, Kit.command(1, 1, 1, 0));
            brokenOff("a context with the result " + result, x);
        }
    }

    private static void breaks(String what, int[] input) {
        Node x = Kit.ready(1);
        Kit.feed(x, input);
        brokenOff(what, x);
        Kit.due(what + ": nothing is answered", x.state(7), 0);
    }

    private static void partsOf200Bytes() {
        Node x = Kit.ready(1);
        int[] front = {1, 1, 1, 2, 1, 1, 3, 1, 0};
        int[] rest = Kit.join(texts(80, 16, 16, 16, 16, 16, 16), Kit.bytes(160, 81, 254, 79, 1, 1, 1),
                texts(80, 16, 16, 16, 16, 2));
        int[] whole = Kit.join(front, rest);
        Kit.due("made for 200", whole.length, 200);
        Kit.feed(x, Kit.join(Kit.data(1, 1, java.util.Arrays.copyOf(whole, 150)),
                Kit.data(1, 3, java.util.Arrays.copyOfRange(whole, 150, 200))));
        Kit.due("a command of 200 bytes", Kit.takeAll(x), Kit.answer(1, 1, 1, 0, 0));
        Kit.feed(x, Kit.join(Kit.data(1, 1, Kit.many(150, 1)), Kit.data(1, 1, Kit.many(50, 1))));
        Kit.due("200 bytes have come", x.state(5), 200);
        Kit.feed(x, Kit.data(1, 1));
        Kit.due("none more", x.state(0), Kit.READY);
        Kit.feed(x, Kit.data(1, 1, 1));
        brokenOff("201 bytes of a command", x);
        x = Kit.ready(1);
        Kit.feed(x, Kit.join(Kit.command(3, 1, 1, 1), Kit.data(3, 0, Kit.many(198, 1)), Kit.data(3, 0, 1, 1)));
        Kit.due("200 bytes of a set have come", x.state(5), 200);
        Kit.feed(x, Kit.data(3, 2, 1));
        brokenOff("201 bytes of a set", x);
        x = Kit.ready(1);
        Kit.feed(x, Kit.join(Kit.command(3, 1, 1, 1), Kit.data(3, 0, Kit.many(198, 1)), Kit.data(3, 2, 1, 1)));
        Kit.due("200 bytes of a set of the wrong kind", Kit.takeAll(x), Kit.answer(3, 1, 1, 0, 2));
    }

    /** Implicit texts of such lengths, with rising tags. */
    private static int[] texts(int first, int... lengths) {
        int[] row = new int[0];
        for (int i = 0; i < lengths.length; i++) {
            row = Kit.join(row, Kit.bytes(first + i, lengths[i]), Kit.many(lengths[i], 65));
        }
        return row;
    }

    private static void commandsThatAreNone() {
        breaks("kind 0", Kit.command(1, 0, 1, 0));
        breaks("kind 4", Kit.command(1, 4, 1, 0));
        breaks("kind -1", Kit.command(1, 255, 1, 0));
        breaks("kind 257", Kit.data(1, 3, 1, 2, 1, 1, 2, 1, 1, 3, 1, 0));
        breaks("follows 2", Kit.command(1, 1, 1, 2));
        breaks("follows -1", Kit.command(1, 1, 1, 255));
        breaks("no kind", Kit.data(1, 3, 2, 1, 1, 3, 1, 0));
        breaks("no message", Kit.data(1, 3, 1, 1, 1, 3, 1, 0));
        breaks("no follows", Kit.data(1, 3, 1, 1, 1, 2, 1, 1));
        breaks("a fault", Kit.data(1, 3, 1, 1, 1, 2, 1, 1, 3, 1));
        breaks("a fault behind", Kit.data(1, 3, 1, 1, 1, 2, 1, 1, 3, 1, 0, 80, 1, 65));
        breaks("the explicit syntax", Kit.data(1, 3, 1, 1, 1, 1, 2, 1, 1, 1, 3, 1, 1, 0));
        breaks("tags of an item", Kit.data(1, 3, 160, 11, 254, 9, 1, 1, 1, 2, 1, 1, 3, 1, 0));
    }

    private static void commandsThatAre() {
        Node x = Kit.ready(1);
        Kit.feed(x, Kit.data(1, 3, 1, 4, 1, 0, 0, 0, 2, 4, 255, 255, 255, 127, 3, 2, 0, 0, 4, 1, 9, 80, 2, 65, 66));
        Kit.due("other elements do not matter", Kit.takeAll(x),
                Kit.data(1, 3, 1, 1, 17, 2, 4, 255, 255, 255, 127, 3, 1, 0, 4, 1, 0));
        Kit.feed(x, Kit.data(1, 3, 1, 1, 1, 2, 3, 255, 255, 255, 3, 1, 0));
        Kit.due("the message's number is canonical", Kit.takeAll(x), Kit.answer(1, 1, 255, 0, 0));
        Kit.due("both are counted", x.state(7), 2);
    }

    private static void wrongKind() {
        Node x = Kit.ready(1);
        Kit.feed(x, Kit.command(3, 1, 4, 0));
        Kit.due("ECHO for STORE", Kit.takeAll(x), Kit.answer(3, 1, 4, 0, 2));
        Kit.feed(x, Kit.command(1, 2, 4, 1));
        Kit.due("its set is waited for", x.state(4), 1);
        Kit.due("no answer yet", x.state(2), 0);
        Kit.feed(x, Kit.set(1, Kit.text(80, "a")));
        Kit.due("STORE for ECHO", Kit.takeAll(x), Kit.answer(1, 2, 4, 0, 2));
        Kit.due("it is not kept", x.state(6), 0);
        Kit.feed(x, Kit.join(Kit.command(5, 2, 4, 1), Kit.set(5, 0, 0)));
        Kit.due("faults do not matter", Kit.takeAll(x), Kit.answer(5, 2, 4, 0, 2));
        Kit.feed(x, Kit.command(3, 3, 4, 0));
        Kit.due("FIND for STORE without a set", Kit.takeAll(x), Kit.answer(3, 3, 4, 0, 2));
        Kit.due("all are counted", x.state(7), 4);
    }

    private static void echo() {
        Node x = Kit.ready(1);
        Kit.feed(x, Kit.command(1, 1, 200, 0));
        Kit.due("ECHO", Kit.takeAll(x), Kit.answer(1, 1, 200, 0, 0));
        Kit.feed(x, Kit.command(1, 1, 1, 1));
        Kit.due("no answer yet", x.state(2), 0);
        Kit.feed(x, Kit.set(1, 0, 99, 4));
        Kit.due("ECHO with a faulty set", Kit.takeAll(x), Kit.answer(1, 1, 1, 0, 0));
        Kit.due("counted", x.state(7), 2);
    }

    private static void storeStatuses() {
        Node x = Kit.ready(2);
        Kit.feed(x, Kit.command(3, 2, 9, 0));
        Kit.due("no set", Kit.takeAll(x), Kit.answer(3, 2, 9, 0, 3));
        Kit.dueStore("a fault", x, 3, 80, 2, 1, 65);
        Kit.dueStore("a fault behind the name", x, 3, 80, 2, 2, 65, 65, 80);
        Kit.dueStore("implicit bytes", x, 3, 80, 2, 65, 65);
        Kit.dueStore("an empty set", x, 4);
        Kit.dueStore("no name", x, 4, Kit.text(81, "a"));
        Kit.dueStore("an empty name", x, 4, Kit.text(80, ""));
        Kit.dueStore("a name in an item", x, 4, Kit.sequence(160, Kit.text(80, "a")));
        Kit.due("nothing is kept", x.state(6), 0);
        Kit.dueStore("a name", x, 0, Kit.text(80, "a"));
        Kit.dueStore("another one", x, 0, Kit.text(80, "A"));
        Kit.dueStore("full", x, 5, Kit.text(80, "ab"));
        Kit.dueStore("a fault when full", x, 3, 0);
        Kit.dueStore("no name when full", x, 4);
        Kit.due("two are kept", x.state(6), 2);
        Kit.due("all were answered", x.state(7), 13);
    }

    private static void storeTakesThePlace() {
        Node x = Kit.ready(2);
        Kit.dueStore("a", x, 0, Kit.text(80, "a"));
        Kit.dueStore("b", x, 0, Kit.text(80, "b"));
        int[] again = Kit.join(Kit.bytes(5, 1, 3, 7, 0, 0), Kit.text(80, "a"), Kit.bytes(160, 3, 255, 254, 255, 253, 252));
        Kit.dueStore("a again, in a full node", x, 0, again);
        Kit.due("still two", x.state(6), 2);
        Kit.due("the first is new", Kit.record(x, 0), Kit.join(Kit.number(5, 7), Kit.text(80, "a"),
                Kit.bytes(160, 3, 2, 254, 0)));
        Kit.due("the second is not", Kit.record(x, 1), Kit.text(80, "b"));
        Kit.dueStore("a shorter one", x, 0, Kit.text(80, "a"));
        Kit.due("it is short", Kit.record(x, 0), Kit.text(80, "a"));
        Kit.dueStore("* is a name like others", x, 5, Kit.text(80, "*"));
    }

    /** A number of so many bytes, eight texts and a sequence: 196 + numberBytes explicit bytes. */
    private static int[] sized(int numberBytes, int... number) {
        int[] row = Kit.join(Kit.bytes(5, 1, numberBytes), number);
        for (int tag = 80; tag < 87; tag++) {
            row = Kit.join(row, Kit.text(tag, "abcdefghijklmnop"));
        }
        row = Kit.join(row, Kit.text(87, "abcdefghijklmn"));
        return Kit.join(row, Kit.sequence(160, twoTexts()));
    }

    private static int[] twoTexts() {
        return Kit.join(Kit.text(80, "abcdefghijklmnop"), Kit.text(81, "abcdefghijklmnop"));
    }

    private static void storeSizes() {
        Node x = Kit.ready(1);
        int[] largest = sized(2, 0, 1);
        storeInTwo(x, 0, largest);
        Kit.due("198 bytes are kept", Kit.record(x, 0), largest);
        x = Kit.ready(1);
        storeInTwo(x, 3, sized(3, 0, 0, 1));
        storeInTwo(x, 3, sized(4, 0, 0, 0, 1));
        Kit.due("no more than these", x.state(6), 0);
        storeInTwo(x, 0, sized(4, 0, 1, 0, 0));
        Kit.due("200 bytes with 198 canonical ones", x.record(0, -1), 198);
        x = Kit.ready(1);
        int[] open = java.util.Arrays.copyOf(largest, 198 - 43);
        storeInTwo(x, 0, Kit.join(open, Kit.bytes(160, 3, 255, 254, 255), twoTexts(), Kit.bytes(253, 252)));
        Kit.due("open lengths are not kept", x.record(0, -1), 198);
    }

    /** A set of 199 or 200 bytes does not fit into one piece. */
    private static void storeInTwo(Node x, int status, int... bytes) {
        int half = bytes.length / 2;
        Kit.feed(x, Kit.join(Kit.command(3, 2, 9, 1), Kit.data(3, 0, java.util.Arrays.copyOf(bytes, half)),
                Kit.data(3, 2, java.util.Arrays.copyOfRange(bytes, half, bytes.length))));
        Kit.due("store of " + bytes.length + " bytes", Kit.takeAll(x), Kit.answer(3, 2, 9, 0, status));
    }

    /** Implicit bytes may be few enough and the explicit ones too many. */
    private static void storeOfImplicitSets() {
        Node x = Kit.waiting(2);
        Kit.feed(x, Kit.piece(1, 1, 1, 3, 2, 2, 5, 3, 2));
        Kit.takeAll(x);
        int[] name = {80, 2, 65, 32};
        storeInTwo(x, 0, name);
        Kit.due("kept in the explicit syntax", Kit.record(x, 0), Kit.text(80, "A"));
        storeInTwo(x, 3, Kit.text(80, "A"));
        int[] front = Kit.join(texts(80, 16, 16, 16, 16, 16, 16, 16, 14), Kit.bytes(160, 38, 254, 36), texts(80, 16, 16));
        storeInTwo(x, 0, Kit.join(Kit.bytes(5, 2, 0, 1), front));
        Kit.due("198 explicit bytes", x.record(1, -1), 198);
        storeInTwo(x, 3, Kit.join(Kit.bytes(5, 3, 0, 0, 1), front));
        storeInTwo(x, 3, Kit.join(name, tooLong()));
    }

    /** 184 implicit bytes; the explicit ones would need a length of 264. */
    static int[] tooLong() {
        int[] item = Kit.join(Kit.bytes(254, 20), texts(80, 0, 0, 0, 0, 0, 0, 0, 0, 0, 0));
        int[] four = Kit.join(item, item, item, item);
        return Kit.join(Kit.bytes(160, 182, 254, 180), Kit.bytes(160, 88), four, Kit.bytes(161, 88), four);
    }
}
