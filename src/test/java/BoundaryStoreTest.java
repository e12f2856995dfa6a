import java.util.Arrays;

/** The statuses of STORE and ECHO at their limits, and which of two is told. */
public final class BoundaryStoreTest {
    public static void main(String[] args) {
        theWrongKind();
        echo();
        noSet();
        aFault();
        upTo198Bytes();
        upTo198BytesOfImplicitOnes();
        noCanonicalBytes();
        theLongestLengths();
        aName();
        namesOf16Characters();
        theSameName();
        aFullNode();
        rooms();
        theOrderOfStatuses();
        aRefusedRecordChangesNothing();
        Kit.end();
    }

    private static int[] inTwo(int id, int... bytes) {
        int half = bytes.length / 2;
        return Kit.join(Kit.data(id, 0, Arrays.copyOf(bytes, half)),
                Kit.data(id, 2, Arrays.copyOfRange(bytes, half, bytes.length)));
    }

    private static void due(String what, Node x, int status, int... set) {
        Kit.feed(x, Kit.join(Kit.command(3, 2, 9, 1), inTwo(3, set)));
        Kit.due(what, Kit.takeAll(x), Kit.answer(3, 2, 9, 0, status));
        Kit.due(what + ": READY", x.state(0), Kit.READY);
    }

    /** "Status 2: the kind is not the service of the context": each of three for each of three. */
    private static void theWrongKind() {
        int[] ids = {1, 3, 5};
        for (int service = 1; service <= 3; service++) {
            for (int kind = 1; kind <= 3; kind++) {
                int id = ids[service - 1];
                int status = kind != service ? 2 : kind == 1 ? 0 : 3;
                Node x = Kit.ready(1);
                Kit.feed(x, Kit.command(id, kind, 4, 0));
                Kit.due("kind " + kind + " without a set", Kit.takeAll(x), Kit.answer(id, kind, 4, 0, status));
                Kit.feed(x, Kit.command(id, kind, 4, 1));
                Kit.due("a set is waited for", x.state(4), 1);
                Kit.due("not answered yet", x.state(7), 1);
                Kit.feed(x, Kit.data(id, 0, 0, 0));
                Kit.due("nor is it yet", x.state(2), 0);
                Kit.feed(x, Kit.data(id, 2));
                Kit.due("kind " + kind + " with a faulty set", Kit.takeAll(x), Kit.answer(id, kind, 4, 0, status));
                Kit.due("answered", x.state(7), 2);
            }
        }
        Node x = Kit.ready(1);
        Kit.feed(x, Kit.join(Kit.command(1, 2, 4, 1), Kit.set(1, Kit.text(80, "a")), Kit.command(5, 2, 4, 1),
                Kit.set(5, Kit.text(80, "a"))));
        Kit.due("nothing is kept", x.state(6), 0);
    }

    /** "(.. its faults do not matter, nor for ECHO). Otherwise ECHO: 0." */
    private static void echo() {
        Node x = Kit.ready(1);
        int[][] sets = {{}, {0}, {80, 2}, Kit.text(80, "a"), Kit.many(198, 255)};
        for (int[] set : sets) {
            Kit.feed(x, Kit.join(Kit.command(1, 1, 4, 1), Kit.set(1, set)));
            Kit.due("ECHO with a set", Kit.takeAll(x), Kit.answer(1, 1, 4, 0, 0));
        }
        Kit.due("nothing is kept", x.state(6), 0);
        Kit.due("all are counted", x.state(7), sets.length);
    }

    /** "STORE: 3 if there is no set": an empty one is one. */
    private static void noSet() {
        Node x = Kit.ready(1);
        Kit.feed(x, Kit.command(3, 2, 9, 0));
        Kit.due("no set", Kit.takeAll(x), Kit.answer(3, 2, 9, 0, 3));
        due("an empty set", x, 4);
    }

    /** "it has a fault": one of each, in the context's syntax. */
    private static void aFault() {
        Node x = Kit.ready(1);
        int[] name = Kit.text(80, "a");
        due("END", x, 3, Kit.join(name, Kit.bytes(81)));
        due("TAG", x, 3, Kit.join(name, name));
        due("KIND", x, 3, Kit.join(name, Kit.bytes(81, 3, 0)));
        due("LENGTH", x, 3, Kit.join(name, Kit.bytes(81, 2, 1, 65)));
        due("VALUE", x, 3, Kit.join(name, Kit.bytes(81, 2, 2, 32, 32)));
        due("ITEM", x, 3, Kit.join(name, Kit.bytes(160, 3, 1, 0)));
        due("MANY", x, 3, Kit.join(Kit.bytes(79, 1, 1, 1), Reading.bytes(0, Reading.tenTexts(80))));
        due("DEEP", x, 3, Kit.join(name, Kit.sequence(160, Kit.sequence(160, Kit.sequence(160)))));
        due("the other syntax", x, 3, 80, 2, 65, 66);
        Kit.due("nothing is kept", x.state(6), 0);
        due("none", x, 0, name);
    }

    /** Explicit bytes: nine texts and a sequence around a number of so many bytes. */
    private static int[] sized(int numberBytes, int... number) {
        int[] row = Kit.join(Kit.bytes(5, 1, numberBytes), number);
        for (int tag = 80; tag < 87; tag++) {
            row = Kit.join(row, Kit.text(tag, "abcdefghijklmnop"));
        }
        row = Kit.join(row, Kit.text(87, "abcdefghijklmn"));
        return Kit.join(row, Kit.sequence(160, Kit.join(Kit.text(80, "abcdefghijklmnop"),
                Kit.text(81, "abcdefghijklmnop"))));
    }

    /** "or more than 198": of canonical bytes, not of those that came. */
    private static void upTo198Bytes() {
        Node x = Kit.ready(1);
        due("197 bytes", x, 0, sized(1, 1));
        Kit.due("are kept", x.record(0, -1), 197);
        due("198 bytes", x, 0, sized(2, 0, 1));
        Kit.due("are kept", x.record(0, -1), 198);
        due("199 bytes", x, 3, sized(3, 0, 0, 1));
        due("200 bytes", x, 3, sized(4, 0, 0, 0, 1));
        Kit.due("are not", x.record(0, -1), 198);
        Kit.due("the record stays", x.record(0, 4), 1);
        due("200 bytes with 198 canonical ones", x, 0, sized(4, 0, 2, 0, 0));
        Kit.due("are kept", x.record(0, -1), 198);
        Kit.due("the record is new", x.record(0, 4), 2);
        Kit.due("its last byte", x.record(0, 197), 'p');
    }

    /** Fewer implicit bytes may be more explicit ones. */
    private static void upTo198BytesOfImplicitOnes() {
        for (int more = 1; more <= 4; more++) {
            Node x = Kit.waiting(1);
            Kit.feed(x, Kit.piece(1, 1, 1, 3, 2, 2));
            Kit.takeAll(x);
            int[] number = new int[more];
            number[more - 1] = 1;
            int[] set = Kit.join(Kit.bytes(5, more), number);
            for (int tag = 80; tag < 88; tag++) {
                int length = tag < 87 ? 16 : 14;
                set = Kit.join(set, Kit.bytes(tag, length), Kit.many(length, 'x'));
            }
            set = Kit.join(set, Kit.bytes(160, 38, 254, 36, 80, 16), Kit.many(16, 'x'), Kit.bytes(81, 16),
                    Kit.many(16, 'x'));
            Kit.due("implicit bytes", set.length, 184 + more);
            due("for " + (196 + more) + " explicit ones", x, more <= 2 ? 0 : 3, set);
            Kit.due("kept", x.state(6), more <= 2 ? 1 : 0);
        }
    }

    /** "has no canonical bytes in the explicit syntax": a length above 240 would be needed. */
    private static void noCanonicalBytes() {
        Node x = Kit.waiting(1);
        Kit.feed(x, Kit.piece(1, 1, 1, 3, 2, 2));
        Kit.takeAll(x);
        due("no canonical bytes", x, 3, Kit.join(Kit.bytes(80, 2, 65, 32), Promise09MessageTest.tooLong()));
        Kit.due("nothing is kept", x.state(6), 0);
    }

    /** "LENGTHS are 0 .. 240": as long as a record lets them be, 190 and 188 inside. */
    private static void theLongestLengths() {
        int[] item = new int[0];
        for (int tag = 80; tag < 90; tag++) {
            item = Kit.join(item, Kit.text(tag, "abcdefghijklmnop".substring(0, tag < 89 ? 16 : 14)));
        }
        int[] sequence = Kit.sequence(160, item);
        Kit.due("the length of the sequence", sequence[2], 190);
        int[] record = Kit.join(Kit.text(80, "a"), sequence);
        Node x = Kit.ready(1);
        due("long lengths", x, 0, record);
        Kit.due("198 bytes", x.record(0, -1), 198);
        Kit.due("the length of the sequence", x.record(0, 5 + 2), 190);
        Kit.due("the length of the item", x.record(0, 5 + 4), 188);
        Kit.feed(x, Kit.join(Kit.command(5, 3, 6, 1), Kit.set(5, 160, 3, 0)));
        Kit.due("found again", Kit.takeAll(x), Kit.join(Kit.answer(5, 3, 6, 1, 1), Kit.set(5, sequence),
                Kit.answer(5, 3, 6, 0, 0)));
        int[] open = Kit.join(Kit.text(80, "a"), Kit.bytes(160, 3, 255, 254, 255), item, Kit.bytes(253, 252));
        Node y = Kit.ready(1);
        due("open lengths", y, 0, open);
        Kit.due("as many bytes", y.record(0, -1), 198);
        Kit.due("the length of the sequence", y.record(0, 5 + 2), 190);
        Kit.due("the length of the item", y.record(0, 5 + 4), 188);
    }

    /** "4 if it has no TEXT 80 with at least one character, its NAME" */
    private static void aName() {
        Node x = Kit.ready(1);
        due("no element", x, 4);
        due("a TEXT 81", x, 4, Kit.text(81, "a"));
        due("a NUMBER 79", x, 4, Kit.number(79, 1));
        due("a TEXT 80 without characters", x, 4, Kit.text(80, ""));
        due("one in an item", x, 4, Kit.sequence(160, Kit.text(80, "a")));
        Kit.due("nothing is kept", x.state(6), 0);
        due("one character", x, 0, Kit.text(80, "a"));
        Kit.due("one is kept", x.state(6), 1);
    }

    private static void namesOf16Characters() {
        Node x = Kit.ready(4);
        due("16 characters", x, 0, Kit.text(80, "abcdefghijklmnop"));
        due("another last one", x, 0, Kit.text(80, "abcdefghijklmnoq"));
        due("another first one", x, 0, Kit.text(80, "bbcdefghijklmnop"));
        due("15 characters", x, 0, Kit.text(80, "abcdefghijklmno"));
        Kit.due("four records", x.state(6), 4);
        due("16 characters again", x, 0, Kit.join(Kit.number(1, 1), Kit.text(80, "abcdefghijklmnop")));
        Kit.due("still four", x.state(6), 4);
        Kit.due("in the first place", x.record(0, 0), 1);
    }

    /** "then it takes the place of the record with the same name (also in a full node)" */
    private static void theSameName() {
        for (int room = 3; room <= 4; room++) {
            for (int place = 0; place < 3; place++) {
                Node x = Kit.ready(room);
                String[] names = {"a", "ab", "b"};
                for (String name : names) {
                    due("the first one", x, 0, Kit.text(80, name));
                }
                int[] again = Kit.join(Kit.number(3, 77), Kit.text(80, names[place]), Kit.text(81, "new"));
                due("the second one", x, 0, again);
                Kit.due("three records", x.state(6), 3);
                for (int k = 0; k < 3; k++) {
                    Kit.due("record " + k, Kit.record(x, k), k == place ? again : Kit.text(80, names[k]));
                }
                due("a shorter one", x, 0, Kit.text(80, names[place]));
                Kit.due("is all of it", Kit.record(x, place), Kit.text(80, names[place]));
            }
        }
    }

    /** "or else 5 if the node is full; or else it is the last one; status 0" */
    private static void aFullNode() {
        Node x = Kit.ready(2);
        due("the first", x, 0, Kit.text(80, "b"));
        due("the last", x, 0, Kit.text(80, "a"));
        due("one too many", x, 5, Kit.text(80, "c"));
        due("a like one", x, 5, Kit.text(80, "B"));
        due("a longer one", x, 5, Kit.text(80, "aa"));
        due("no pattern", x, 5, Kit.text(80, "*"));
        due("no pattern", x, 5, Kit.text(80, "?"));
        Kit.due("two records", x.state(6), 2);
        Kit.due("the first", Kit.record(x, 0), Kit.text(80, "b"));
        Kit.due("the last", Kit.record(x, 1), Kit.text(80, "a"));
    }

    /** "Room for so many records: 1 to 8; other numbers count as the nearest of these." */
    private static void rooms() {
        int[] rooms = {Integer.MIN_VALUE, -8, -1, 0, 1, 2, 3, 4, 5, 6, 7, 8, 9, 16, 256, 257, Integer.MAX_VALUE};
        for (int room : rooms) {
            int most = room < 1 ? 1 : room > 8 ? 8 : room;
            Node x = Kit.ready(room);
            for (int k = 0; k < most; k++) {
                Kit.due("records", x.state(6), k);
                due("record " + k + " in room " + room, x, 0, Kit.text(80, "r" + k));
            }
            due("one too many in room " + room, x, 5, Kit.text(80, "r8"));
            Kit.due("records in room " + room, x.state(6), most);
            due("the last one again", x, 0, Kit.text(80, "r" + (most - 1)));
        }
    }

    /** 2 before 3 before 4 before the same name before 5. */
    private static void theOrderOfStatuses() {
        Node x = Kit.ready(1);
        due("the only one", x, 0, Kit.text(80, "a"));
        due("a fault, and no name", x, 3, 81, 2, 1);
        due("a fault in a full node", x, 3, Kit.join(Kit.text(80, "b"), Kit.bytes(0)));
        int[] nameless = named("", 10);
        Kit.due("made for 199", nameless.length, 199);
        due("too large, and no name", x, 3, nameless);
        nameless[3 + 3] = 0;
        due("no name, in a full node", x, 4, nameless);
        due("the same name, in a full node", x, 0, Kit.text(80, "a"));
        due("another name", x, 5, Kit.text(80, "b"));
        Kit.feed(x, Kit.join(Kit.command(5, 2, 9, 1), Kit.set(5, 0)));
        Kit.due("the wrong kind, and a fault", Kit.takeAll(x), Kit.answer(5, 2, 9, 0, 2));
    }

    /** Ten elements with a name, a number of four bytes, and a text of so many characters inside. */
    private static int[] named(String name, int inside) {
        int[] row = Kit.join(Kit.bytes(5, 1, 4, 0, 0, 0, 1), Kit.text(80, name));
        for (int tag = 81; tag < 88; tag++) {
            row = Kit.join(row, Kit.text(tag, "abcdefghijklmnop"));
        }
        return Kit.join(row, Kit.sequence(160, Kit.join(Kit.text(80, "abcdefghijklmnop"),
                Kit.text(81, "abcdefghijklmnop"), Kit.text(82, "abcdefghijklmnop".substring(0, inside)))));
    }

    /** A STORE that is not done leaves all records as they were. */
    private static void aRefusedRecordChangesNothing() {
        Node x = Kit.ready(1);
        int[] kept = Kit.join(Kit.number(4, 4), Kit.text(80, "a"));
        due("kept", x, 0, kept);
        due("a fault", x, 3, Kit.join(Kit.text(80, "a"), Kit.bytes(0)));
        due("no name", x, 4, Kit.text(81, "a"));
        due("full", x, 5, Kit.text(80, "b"));
        int[] large = named("a", 8);
        Kit.due("made for 199", large.length, 199);
        due("too large", x, 3, large);
        Kit.due("one record", x.state(6), 1);
        Kit.due("as it was", Kit.record(x, 0), kept);
        Kit.due("five were answered", x.state(7), 5);
    }
}
