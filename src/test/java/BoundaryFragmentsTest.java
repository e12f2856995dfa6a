import java.util.Arrays;

/** DATA: fragments, the 200 bytes of a command and of a set, and what a command must have. */
public final class BoundaryFragmentsTest {
    private static final int[] COMMAND = {1, 1, 2, 2, 1, 9, 3, 1, 1};

    public static void main(String[] args) {
        idAndFlagsAreThere();
        idsOfContexts();
        flagsUpTo3();
        fragmentsOfNoBytes();
        aCommandFirst();
        aSetOnlyWhenItFollows();
        theContextOfTheMessage();
        theNextMessageOfAnother();
        commandsOf200Bytes();
        setsOf200Bytes();
        bothOf200Bytes();
        kinds();
        messageNumbers();
        follows();
        missingNumbers();
        faultsOfACommand();
        nothingIsLeftOfAMessage();
        Kit.end();
    }

    private static void brokenOff(String what, Node x) {
        Kit.due(what + ": ENDING", x.state(0), Kit.ENDING);
        Kit.due(what + ": the timer", x.state(1), 5);
        Kit.due(what + ": what is wanted", x.state(4), 0);
        Kit.due(what + ": of it", x.state(5), 0);
        Kit.due(what + ": answered", x.state(7), 0);
        Kit.due(what + ": what is written", Kit.takeAll(x), 7, 0);
    }

    private static void breaks(String what, int... input) {
        Node x = Kit.ready(1);
        Kit.feed(x, input);
        brokenOff(what, x);
    }

    private static Node goesOn(String what, int wanted, int bytes, int... input) {
        Node x = Kit.ready(1);
        Kit.feed(x, input);
        Kit.due(what + ": READY", x.state(0), Kit.READY);
        Kit.due(what + ": what is wanted", x.state(4), wanted);
        Kit.due(what + ": of it", x.state(5), bytes);
        Kit.due(what + ": nothing is written", x.state(2), 0);
        return x;
    }

    /** "the ID of a context .., FLAGS .., and a FRAGMENT": two bytes at the least. */
    private static void idAndFlagsAreThere() {
        breaks("no bytes", Kit.piece(4));
        breaks("an ID alone", Kit.piece(4, 1));
        breaks("an ID alone behind all of a command", Kit.join(Kit.data(3, 1, COMMAND), Kit.piece(4, 3)));
        breaks("an ID alone for a set", Kit.join(Kit.data(3, 3, COMMAND), Kit.piece(4, 3)));
        breaks("an ID alone behind all of a set", Kit.join(Kit.data(3, 3, COMMAND), Kit.data(3, 0, Kit.text(80, "a")),
                Kit.piece(4, 3)));
        goesOn("an ID and flags", 0, 0, Kit.piece(4, 1, 1));
        goesOn("a byte more", 0, 1, Kit.piece(4, 1, 1, 1));
        goesOn("the most of a piece", 0, 198, Kit.piece(4, Kit.many(200, 1)));
    }

    /** "of a context whose result is 0 or 1" */
    private static void idsOfContexts() {
        for (int id = 0; id <= 255; id++) {
            boolean known = id == 1 || id == 3 || id == 5 || id == 7;
            if (known) {
                goesOn("the ID " + id, 0, 0, Kit.data(id, 1));
            } else {
                breaks("the ID " + id, Kit.data(id, 1));
            }
        }
        for (int result = 0; result <= 3; result++) {
            Node x = Kit.waiting(1);
            int[] context = result == 2 ? Kit.bytes(9, 4, 3) : Kit.bytes(9, 1, new int[] {1, 2, 0, 252}[result]);
            Kit.feed(x, Kit.piece(1, Kit.join(Kit.bytes(1, 1, 3, 1, 1), context)));
            Kit.takeAll(x);
            Kit.due("the result", x.context(9), result);
            Kit.feed(x, Kit.command(9, 1, 1, 0));
            Kit.due("a context with the result " + result, x.state(0), result <= 1 ? Kit.READY : Kit.ENDING);
            Kit.due("what is written", Kit.takeAll(x), result <= 1 ? Kit.answer(9, 1, 1, 0, 0) : Kit.bytes(7, 0));
        }
    }

    /** "FLAGS 0 .. 3" */
    private static void flagsUpTo3() {
        for (int flags = 0; flags <= 255; flags++) {
            if (flags == 1) {
                goesOn("flags 1", 0, 9, Kit.data(3, flags, COMMAND));
            } else if (flags == 3) {
                goesOn("flags 3", 1, 0, Kit.data(3, flags, COMMAND));
            } else {
                breaks("flags " + flags + " for a command", Kit.data(3, flags, COMMAND));
            }
            int[] both = Kit.join(Kit.data(3, 3, COMMAND), Kit.data(3, flags, 80));
            if (flags == 0) {
                goesOn("flags 0", 1, 1, both);
            } else if (flags == 2) {
                Node x = Kit.ready(1);
                Kit.feed(x, both);
                Kit.due("flags 2", Kit.takeAll(x), Kit.answer(3, 2, 9, 0, 3));
            } else {
                breaks("flags " + flags + " for a set", both);
            }
        }
    }

    /** "a FRAGMENT (perhaps of no bytes)": first, between, last or alone. */
    private static void fragmentsOfNoBytes() {
        goesOn("a first one", 0, 0, Kit.data(3, 1));
        goesOn("between", 0, 3, Kit.join(Kit.data(3, 1, 1, 1), Kit.data(3, 1), Kit.data(3, 1, 2)));
        goesOn("a last one", 1, 0, Kit.join(Kit.data(3, 1, COMMAND), Kit.data(3, 3)));
        goesOn("of a set", 1, 0, Kit.join(Kit.data(3, 3, COMMAND), Kit.data(3, 0)));
        breaks("a command of none", Kit.data(3, 3));
        Node x = Kit.ready(1);
        Kit.feed(x, Kit.join(Kit.data(3, 3, COMMAND), Kit.data(3, 2)));
        Kit.due("a set of none", Kit.takeAll(x), Kit.answer(3, 2, 9, 0, 4));
        Kit.due("READY", x.state(0), Kit.READY);
    }

    /** "A command is wanted first": "Broken off, when a fragment is not of what is wanted" */
    private static void aCommandFirst() {
        breaks("a set first", Kit.data(3, 0, 80));
        breaks("a set of no bytes first", Kit.data(3, 0));
        breaks("a whole set first", Kit.data(3, 2, Kit.text(80, "a")));
        breaks("a set within a command", Kit.join(Kit.data(3, 1, COMMAND), Kit.data(3, 0)));
        breaks("a last set within a command", Kit.join(Kit.data(3, 1, COMMAND), Kit.data(3, 2)));
        Node x = Kit.ready(1);
        Kit.feed(x, Kit.join(Kit.command(1, 1, 1, 0), Kit.command(1, 1, 2, 0)));
        Kit.due("a command behind a message", Kit.takeAll(x),
                Kit.join(Kit.answer(1, 1, 1, 0, 0), Kit.answer(1, 1, 2, 0, 0)));
        Kit.feed(x, Kit.data(1, 2));
        Kit.due("a set behind a message", x.state(0), Kit.ENDING);
    }

    /** "when it is there, and has 1 for tag 3, a set" */
    private static void aSetOnlyWhenItFollows() {
        goesOn("a set is wanted", 1, 0, Kit.command(3, 2, 9, 1));
        breaks("a command for a set", Kit.join(Kit.command(3, 2, 9, 1), Kit.command(3, 2, 9, 1)));
        breaks("a fragment of a command for a set", Kit.join(Kit.command(3, 2, 9, 1), Kit.data(3, 1)));
        breaks("a command within a set", Kit.join(Kit.command(3, 2, 9, 1), Kit.data(3, 0, 80), Kit.data(3, 1)));
        Node x = Kit.ready(1);
        Kit.feed(x, Kit.command(3, 2, 9, 0));
        Kit.due("no set is waited for", Kit.takeAll(x), Kit.answer(3, 2, 9, 0, 3));
        Kit.due("a command is wanted", x.state(4), 0);
        Kit.feed(x, Kit.data(3, 0, 80));
        Kit.due("a set that does not follow", x.state(0), Kit.ENDING);
    }

    /** "or of another context than the one before it of the same message" */
    private static void theContextOfTheMessage() {
        breaks("within a command", Kit.join(Kit.data(3, 1, 1), Kit.data(5, 1, 1)));
        breaks("behind a fragment of no bytes", Kit.join(Kit.data(3, 1), Kit.data(5, 1)));
        breaks("the end of a command", Kit.join(Kit.data(3, 1, COMMAND), Kit.data(5, 3)));
        breaks("the set", Kit.join(Kit.data(3, 3, COMMAND), Kit.data(5, 0)));
        breaks("the whole set", Kit.join(Kit.data(3, 3, COMMAND), Kit.data(5, 2, Kit.text(80, "a"))));
        breaks("within a set", Kit.join(Kit.data(3, 3, COMMAND), Kit.data(3, 0), Kit.data(5, 0)));
        breaks("the end of a set", Kit.join(Kit.data(3, 3, COMMAND), Kit.data(3, 0, Kit.text(80, "a")), Kit.data(5, 2)));
    }

    private static void theNextMessageOfAnother() {
        Node x = Kit.ready(1);
        Kit.feed(x, Kit.join(Kit.data(3, 3, COMMAND), Kit.data(3, 2, Kit.text(80, "a")), Kit.command(5, 3, 8, 1),
                Kit.data(5, 2), Kit.command(1, 1, 7, 0), Kit.command(7, 3, 6, 0)));
        Kit.due("each in its own context", Kit.takeAll(x), Kit.join(Kit.answer(3, 2, 9, 0, 0), Kit.answer(5, 3, 8, 1, 1),
                Kit.set(5), Kit.answer(5, 3, 8, 0, 0), Kit.answer(1, 1, 7, 0, 0), Kit.answer(7, 3, 6, 0, 3)));
    }

    /** 200 implicit bytes: a command with a set inside. */
    private static int[] longCommand(int follows) {
        int[] row = {1, 1, 2, 2, 1, 9, 3, 1, follows};
        for (int tag = 80; tag < 86; tag++) {
            row = Kit.join(row, Kit.bytes(tag, 16), Kit.many(16, 65));
        }
        row = Kit.join(row, Kit.bytes(160, 81, 254, 79, 1, 1, 1));
        for (int tag = 80; tag < 84; tag++) {
            row = Kit.join(row, Kit.bytes(tag, 16), Kit.many(16, 65));
        }
        return Kit.join(row, Kit.bytes(84, 2, 65, 65));
    }

    private static int[] inTwo(int id, int flags, int first, int... bytes) {
        return Kit.join(Kit.data(id, flags, Arrays.copyOf(bytes, first)),
                Kit.data(id, flags | 2, Arrays.copyOfRange(bytes, first, bytes.length)));
    }

    /** "or more than 200 bytes of one of the two come together": a command. */
    private static void commandsOf200Bytes() {
        Kit.due("made for 200", longCommand(0).length, 200);
        for (int first : new int[] {2, 100, 198}) {
            Node x = Kit.ready(1);
            Kit.feed(x, inTwo(3, 1, first, longCommand(0)));
            Kit.due("200 bytes", Kit.takeAll(x), Kit.answer(3, 2, 9, 0, 3));
        }
        goesOn("200 bytes", 0, 200, Kit.join(Kit.data(3, 1, Kit.many(198, 1)), Kit.data(3, 1, 1, 1)));
        goesOn("and none", 0, 200, Kit.join(Kit.data(3, 1, Kit.many(198, 1)), Kit.data(3, 1, 1, 1), Kit.data(3, 1)));
        breaks("201 bytes", Kit.join(Kit.data(3, 1, Kit.many(198, 1)), Kit.data(3, 1, 1, 1, 1)));
        breaks("200 bytes and one", Kit.join(Kit.data(3, 1, Kit.many(100, 1)), Kit.data(3, 1, Kit.many(100, 1)),
                Kit.data(3, 1, 1)));
        breaks("twice the most of a piece", Kit.join(Kit.data(3, 1, Kit.many(198, 1)), Kit.data(3, 3, Kit.many(198, 1))));
    }

    /** The same of a set, which need not be without faults. */
    private static void setsOf200Bytes() {
        int[] command = Kit.command(3, 2, 9, 1);
        goesOn("200 bytes", 1, 200, Kit.join(command, Kit.data(3, 0, Kit.many(198, 1)), Kit.data(3, 0, 1, 1)));
        goesOn("and none", 1, 200, Kit.join(command, Kit.data(3, 0, Kit.many(198, 1)), Kit.data(3, 0, 1, 1),
                Kit.data(3, 0)));
        breaks("201 bytes", Kit.join(command, Kit.data(3, 0, Kit.many(198, 1)), Kit.data(3, 0, 1, 1, 1)));
        breaks("200 bytes and a last one", Kit.join(command, Kit.data(3, 0, Kit.many(198, 1)), Kit.data(3, 0, 1, 1),
                Kit.data(3, 2, 1)));
        Node x = Kit.ready(1);
        Kit.feed(x, Kit.join(command, inTwo(3, 0, 100, Kit.many(200, 1))));
        Kit.due("200 bytes with a fault", Kit.takeAll(x), Kit.answer(3, 2, 9, 0, 3));
        breaks("201 bytes for ECHO", Kit.join(Kit.command(1, 1, 9, 1), inTwo(1, 0, 100, Kit.many(201, 1))));
        breaks("201 bytes for the wrong kind", Kit.join(Kit.command(1, 2, 9, 1), inTwo(1, 0, 100, Kit.many(201, 1))));
    }

    /** "of one of the two": the bytes of the command do not count for the set. */
    private static void bothOf200Bytes() {
        Node x = Kit.ready(1);
        Kit.feed(x, inTwo(3, 1, 198, longCommand(1)));
        Kit.due("a set is wanted", x.state(4), 1);
        Kit.due("nothing of it", x.state(5), 0);
        Kit.feed(x, Kit.join(Kit.data(3, 0, Kit.many(198, 1)), Kit.data(3, 0, 1, 1)));
        Kit.due("200 bytes of it", x.state(5), 200);
        Kit.feed(x, Kit.data(3, 2));
        Kit.due("an answer", Kit.takeAll(x), Kit.answer(3, 2, 9, 0, 3));
        Kit.feed(x, inTwo(3, 1, 2, longCommand(0)));
        Kit.due("and another one", Kit.takeAll(x), Kit.answer(3, 2, 9, 0, 3));
    }

    /** "1 KIND (1 .. 3)" */
    private static void kinds() {
        for (int kind = 0; kind <= 255; kind++) {
            if (kind >= 1 && kind <= 3) {
                Node x = Kit.ready(1);
                Kit.feed(x, Kit.command(1, kind, 5, 0));
                Kit.due("kind " + kind, Kit.takeAll(x), Kit.answer(1, kind, 5, 0, kind == 1 ? 0 : 2));
            } else {
                breaks("kind " + kind, Kit.command(1, kind, 5, 0));
            }
        }
        for (int high = 1; high <= 255; high += 127) {
            breaks("1 and 256 * " + high, Kit.data(1, 3, 1, 2, 1, high, 2, 1, 9, 3, 1, 0));
            breaks("1 and much more", Kit.data(1, 3, 1, 4, 1, 0, 0, high, 2, 1, 9, 3, 1, 0));
        }
        Node x = Kit.ready(1);
        Kit.feed(x, Kit.data(1, 3, 1, 4, 1, 0, 0, 0, 2, 1, 9, 3, 1, 0));
        Kit.due("1 in four bytes", Kit.takeAll(x), Kit.answer(1, 1, 9, 0, 0));
    }

    /** "2 its message": any number, in as few bytes as will do. */
    private static void messageNumbers() {
        int[][] numbers = {{0}, {127}, {128}, {255}, {128, 0}, {127, 255}, {255, 127}, {0, 128}, {0, 128, 0},
            {255, 127, 255}, {255, 255, 127}, {0, 0, 128}, {0, 0, 128, 0}, {255, 255, 127, 255}, {255, 255, 255, 127},
            {0, 0, 0, 128}};
        for (int[] number : numbers) {
            boolean negative = number[number.length - 1] >= 128;
            for (int bytes = number.length; bytes <= 4; bytes++) {
                int[] wide = Kit.join(number, Kit.many(bytes - number.length, negative ? 255 : 0));
                Node x = Kit.ready(1);
                Kit.feed(x, Kit.data(1, 3, Kit.join(Kit.bytes(1, 1, 1, 2, bytes), wide, Kit.bytes(3, 1, 0))));
                Kit.due("the message " + Arrays.toString(wide), Kit.takeAll(x), Kit.data(1, 3, Kit.join(
                        Kit.bytes(1, 1, 17, 2, number.length), number, Kit.bytes(3, 1, 0, 4, 1, 0))));
            }
        }
    }

    /** "3 FOLLOWS (0 or 1)" */
    private static void follows() {
        for (int follows = 0; follows <= 255; follows++) {
            if (follows > 1) {
                breaks("follows " + follows, Kit.command(1, 1, 5, follows));
            }
        }
        breaks("follows 256", Kit.data(1, 3, 1, 1, 1, 2, 1, 9, 3, 2, 0, 1));
        breaks("follows 257", Kit.data(1, 3, 1, 1, 1, 2, 1, 9, 3, 2, 1, 1));
        goesOn("1 in two bytes", 1, 0, Kit.data(1, 3, 1, 1, 1, 2, 1, 9, 3, 2, 1, 0));
        Node x = Kit.ready(1);
        Kit.feed(x, Kit.data(1, 3, 1, 1, 1, 2, 1, 9, 3, 3, 0, 0, 0));
        Kit.due("0 in three bytes", Kit.takeAll(x), Kit.answer(1, 1, 9, 0, 0));
    }

    /** "that has NUMBERS for the tags 1 .., 2 .., 3": others do not matter. */
    private static void missingNumbers() {
        breaks("an empty command", Kit.data(1, 3));
        breaks("no 1", Kit.data(1, 3, 2, 1, 9, 3, 1, 0));
        breaks("no 2", Kit.data(1, 3, 1, 1, 1, 3, 1, 0));
        breaks("no 3", Kit.data(1, 3, 1, 1, 1, 2, 1, 9));
        breaks("4 for 3", Kit.data(1, 3, 1, 1, 1, 2, 1, 9, 4, 1, 0));
        breaks("all in an item", Kit.data(1, 3, 160, 11, 254, 9, 1, 1, 1, 2, 1, 9, 3, 1, 0));
        Node x = Kit.ready(1);
        Kit.feed(x, Kit.data(1, 3, 1, 1, 1, 2, 1, 9, 3, 1, 0, 4, 1, 5, 79, 1, 1, 80, 2, 65, 65, 160, 255, 252, 200, 0));
        Kit.due("others too", Kit.takeAll(x), Kit.answer(1, 1, 9, 0, 0));
    }

    /** "a command that has come is not a set in the implicit syntax": in any context. */
    private static void faultsOfACommand() {
        int[] good = {1, 1, 1, 2, 1, 9, 3, 1, 0};
        for (int length = 0; length < good.length; length++) {
            breaks("only " + length + " bytes", Kit.data(1, 3, Arrays.copyOf(good, length)));
        }
        int[][] behind = {{3, 1, 0}, {0}, {201}, {253}, {4, 0}, {4, 5, 1, 1, 1, 1, 1}, {80, 1, 65}, {80, 2, 65},
            {80, 2, 32, 32}, {160, 1, 0}, {160, 255}, {4}};
        for (int[] more : behind) {
            breaks("a fault behind", Kit.data(1, 3, Kit.join(good, more)));
        }
        int[] seven = new int[0];
        for (int tag = 80; tag < 87; tag++) {
            seven = Kit.join(seven, Kit.bytes(tag, 0));
        }
        Node x = Kit.ready(1);
        Kit.feed(x, Kit.data(1, 3, Kit.join(good, seven)));
        Kit.due("ten elements", Kit.takeAll(x), Kit.answer(1, 1, 9, 0, 0));
        breaks("eleven elements", Kit.data(1, 3, Kit.join(good, seven, Kit.bytes(87, 0))));
        for (int id = 1; id <= 7; id += 2) {
            breaks("explicit bytes in context " + id, Kit.data(id, 3, 1, 1, 1, 1, 2, 1, 1, 9, 3, 1, 1, 0));
        }
        breaks("a fault before its set", Kit.join(Kit.data(3, 3, Kit.join(COMMAND, Kit.bytes(0))), Kit.data(3, 2)));
    }

    /** A message that was answered leaves nothing for the next one. */
    private static void nothingIsLeftOfAMessage() {
        Node x = Kit.ready(1);
        Kit.feed(x, Kit.join(Kit.command(3, 2, 9, 1), Kit.data(3, 2, Kit.text(80, "a"))));
        Kit.due("a command is wanted", x.state(4), 0);
        Kit.due("nothing of it", x.state(5), 0);
        Kit.takeAll(x);
        Kit.feed(x, Kit.command(3, 2, 9, 0));
        Kit.due("the old set is gone", Kit.takeAll(x), Kit.answer(3, 2, 9, 0, 3));
        Kit.feed(x, Kit.join(Kit.command(3, 2, 9, 1), Kit.data(3, 2)));
        Kit.due("an empty set is empty", Kit.takeAll(x), Kit.answer(3, 2, 9, 0, 4));
        Kit.due("three messages", x.state(7), 3);
    }
}
