import java.util.Arrays;

/** Pieces of input: their lengths, when they are looked at, and what is lost or forgotten. */
public final class BoundaryPiecesTest {
    public static void main(String[] args) {
        lookedAtWithTheLastByte();
        lengthsUpTo200();
        lengthsAbove200();
        lengthsAbove200InEnding();
        theseTwoBytesAreGone();
        eachPieceBeforeWhatComesBehind();
        whatComesBehindIsLost();
        oneToEightBytes();
        aLineThatWasClosedBefore();
        aDraftOfNoneOrAllBytes();
        forgottenWhenTheLineCloses();
        nothingElseMattersInEnding();
        piece7ClosesTheLine();
        Kit.end();
    }

    private static Node ending() {
        Node x = Kit.ready(1);
        Kit.feed(x, Kit.piece(5));
        Kit.due("released", Kit.takeAll(x), 6, 0);
        return x;
    }

    /** A line in each state but CLOSED, its output empty. */
    private static Node in(int state) {
        return state == Kit.WAITING ? Kit.waiting(1) : state == Kit.READY ? Kit.ready(1) : ending();
    }

    /** "A piece is looked at as soon as its last byte is there" */
    private static void lookedAtWithTheLastByte() {
        for (int length : new int[] {0, 1, 2, 7, 199, 200}) {
            for (int state = Kit.WAITING; state <= Kit.ENDING; state++) {
                Node x = in(state);
                int[] piece = Kit.piece(7, Kit.many(length, 7));
                Kit.feed(x, Arrays.copyOf(piece, length + 1));
                Kit.due("without its last byte", x.state(0), state);
                Kit.due("all but one wait", x.state(3), length + 1);
                Kit.feed(x, 7 * Math.min(1, length));
                Kit.due("with its last byte", x.state(0), Kit.CLOSED);
                Kit.due("none waits", x.state(3), 0);
            }
        }
    }

    /** 200 is a length like others, in each state. */
    private static void lengthsUpTo200() {
        for (int length : new int[] {199, 200}) {
            for (int state = Kit.WAITING; state <= Kit.ENDING; state++) {
                Node x = in(state);
                Kit.feed(x, 9, length);
                Kit.due("the state stays", x.state(0), state);
                Kit.due("both bytes wait", x.state(3), 2);
                Kit.due("nothing is written", x.state(2), 0);
                Kit.feed(x, Kit.many(length - 1, 0));
                Kit.due("still", x.state(0), state);
                Kit.due("one is missing", x.state(3), length + 1);
                Kit.feed(x, 0);
                Kit.due("no such piece", x.state(0), Kit.ENDING);
                Kit.due("what is written", Kit.takeAll(x), state == Kit.ENDING ? new int[0] : new int[] {7, 0});
                Kit.due("none waits", x.state(3), 0);
            }
        }
    }

    /** "with a length above 200 the association is broken off at once": whatever its type. */
    private static void lengthsAbove200() {
        for (int length : new int[] {201, 202, 240, 254, 255}) {
            for (int type : new int[] {0, 1, 4, 5, 7, 8, 255}) {
                for (int state = Kit.WAITING; state <= Kit.READY; state++) {
                    Node x = in(state);
                    x.tick();
                    Kit.feed(x, type);
                    Kit.due("the type waits", x.state(3), 1);
                    Kit.due("the state stays", x.state(0), state);
                    Kit.feed(x, length);
                    Kit.due("broken off", x.state(0), Kit.ENDING);
                    Kit.due("a timer", x.state(1), 5);
                    Kit.due("what is written", Kit.takeAll(x), 7, 0);
                }
            }
        }
    }

    /** "(in ENDING the line is closed)": and nothing is written. */
    private static void lengthsAbove200InEnding() {
        for (int length : new int[] {201, 202, 240, 254, 255}) {
            for (int type : new int[] {0, 1, 4, 5, 7, 8, 255}) {
                Node x = ending();
                Kit.feed(x, type);
                Kit.due("not yet", x.state(0), Kit.ENDING);
                Kit.feed(x, length);
                Kit.due("closed", x.state(0), Kit.CLOSED);
                Kit.due("nothing is written", x.state(2), 0);
                Kit.due("no timer", x.state(1), 0);
            }
        }
    }

    /** "and these two bytes are gone": what comes behind them begins a piece. */
    private static void theseTwoBytesAreGone() {
        for (int state = Kit.WAITING; state <= Kit.READY; state++) {
            Node x = in(state);
            Kit.feed(x, 1, 201);
            Kit.due("none waits", x.state(3), 0);
            Kit.feed(x, 9, 2, 7);
            Kit.due("three of a new piece wait", x.state(3), 3);
            Kit.feed(x, 0, 7, 0);
            Kit.due("a piece 7 behind that one", x.state(0), Kit.CLOSED);
            x = in(state);
            Kit.due("in one feed", x.feed(0x01C90907L, 4), true);
            Kit.due("two of a new piece wait", x.state(3), 2);
            x = in(state);
            Kit.due("two that are too long", x.feed(0x01C901C909L, 5), true);
            Kit.due("the second one closes", x.state(0), Kit.CLOSED);
            Kit.due("one piece is written", Kit.takeAll(x), 7, 0);
            Kit.due("what comes behind is lost", x.state(3), 0);
        }
    }

    /** "each piece that is complete is looked at before what comes behind it" */
    private static void eachPieceBeforeWhatComesBehind() {
        Node x = Kit.waiting(1);
        Kit.due("a request and a release", x.feed(0x01050101L, 4), true);
        Kit.due("their rest", x.feed(0x0101010500L, 5), true);
        Kit.due("both were looked at", x.state(0), Kit.ENDING);
        Kit.due("in their order", Kit.takeAll(x), 2, 2, 1, 0, 6, 0);
        x = Kit.ready(1);
        Kit.due("four pieces in eight bytes", x.feed(0x0500050005000700L, 8), true);
        Kit.due("the last one closed", x.state(0), Kit.CLOSED);
        Kit.due("only the first was answered", Kit.takeAll(x), 6, 0);
    }

    /** "what comes when the line has closed is lost (the line may close by these bytes): true" */
    private static void whatComesBehindIsLost() {
        for (int state = Kit.WAITING; state <= Kit.ENDING; state++) {
            Node x = in(state);
            Kit.due("a feed that closes", x.feed(0x0700010501010101L, 8), true);
            Kit.due("closed", x.state(0), Kit.CLOSED);
            Kit.due("none waits", x.state(3), 0);
            Kit.due("the next feed", x.feed(0x0101L, 2), false);
            Kit.due("open", x.open(), true);
            Kit.due("none waits", x.state(3), 0);
            Kit.feed(x, Kit.piece(1, 1, 1, 1, 1, 1));
            Kit.due("a request from its beginning", x.state(0), Kit.READY);
            x = in(state);
            Kit.type(x, 7, 0, 1, 5, 1, 1, 1, 1, 1, 9);
            Kit.due("a send that closes", x.send(), true);
            Kit.due("closed", x.state(0), Kit.CLOSED);
            Kit.due("none waits", x.state(3), 0);
            Kit.due("the draft stays", x.at(-1), 10);
            Kit.due("the next send", x.send(), false);
        }
    }

    /** "IllegalArgumentException when n is not 1 .. 8; else false when the line is closed before" */
    private static void oneToEightBytes() {
        for (int n : new int[] {0, 9, 10, -1, -8, 257, 264, Integer.MAX_VALUE, Integer.MIN_VALUE}) {
            for (int state = Kit.WAITING; state <= Kit.ENDING; state++) {
                Node x = in(state);
                Kit.feed(x, 9, 4, 1);
                Kit.dueThrows("feed of " + n, IllegalArgumentException.class, () -> x.feed(-1L, n) ? 1 : 0);
                Kit.due("no byte came", x.state(3), 3);
                Kit.due("the state stays", x.state(0), state);
                Kit.feed(x, 7, 0);
                Kit.due("nor did any come behind", x.state(3), 5);
            }
            Node closed = new Node(1);
            Kit.dueThrows("feed of " + n + ", closed", IllegalArgumentException.class, () -> closed.feed(-1L, n) ? 1 : 0);
        }
        for (int n = 1; n <= 8; n++) {
            Node x = Kit.waiting(1);
            Kit.due("feed of " + n, x.feed(0x0908090809080908L, n), true);
            Kit.due("all wait", x.state(3), n);
        }
    }

    private static void aLineThatWasClosedBefore() {
        Node x = new Node(1);
        for (int n = 1; n <= 8; n++) {
            Kit.due("feed of " + n + " on a closed line", x.feed(0x0105010101010101L, n), false);
            Kit.due("none waits", x.state(3), 0);
        }
        Kit.due("still closed", x.state(0), Kit.CLOSED);
        Kit.due("send of nothing", x.send(), false);
        Kit.type(x, Kit.piece(1, 1, 1, 1, 1, 1));
        Kit.due("send of a request", x.send(), false);
        Kit.due("nothing is written", x.state(2), 0);
        Kit.due("open", x.open(), true);
        Kit.due("none waits", x.state(3), 0);
        Kit.due("send", x.send(), true);
        Kit.due("READY", x.state(0), Kit.READY);
    }

    /** "All bytes of the draft come in, from its first one on .. the draft stays" */
    private static void aDraftOfNoneOrAllBytes() {
        for (int state = Kit.WAITING; state <= Kit.ENDING; state++) {
            Node x = in(state);
            Kit.due("send of nothing", x.send(), true);
            Kit.due("none waits", x.state(3), 0);
            Kit.due("the state stays", x.state(0), state);
            int[] full = Kit.join(Kit.bytes(9, 119), Kit.many(118, 7));
            Kit.type(x, full);
            Kit.due("send of 120 bytes", x.send(), true);
            Kit.due("they wait", x.state(3), 120);
            Kit.due("the draft stays", Kit.draft(x), full);
            Kit.feed(x, 7);
            Kit.due("one more ends the piece", x.state(3), 0);
            Kit.due("it was looked at", x.state(0), Kit.ENDING);
        }
        Node x = Kit.waiting(1);
        Kit.type(x, 1, 5, 1, 1, 1);
        Kit.due("the first part", x.send(), true);
        x.clear();
        Kit.type(x, 1, 1, 5);
        Kit.due("the rest, and one more", x.send(), true);
        Kit.due("READY", x.state(0), Kit.READY);
        Kit.due("one waits", x.state(3), 1);
    }

    /** "input that is not complete, and what came of a message, are forgotten; the output stays" */
    private static void forgottenWhenTheLineCloses() {
        for (int way = 0; way < 3; way++) {
            Node x = Kit.ready(1);
            Kit.feed(x, Kit.join(Kit.command(1, 1, 1, 0), Kit.command(3, 2, 7, 1), Kit.data(3, 0, 80, 2), Kit.bytes(7)));
            Kit.due("a set is wanted", x.state(4), 1);
            Kit.due("two bytes of it", x.state(5), 2);
            Kit.due("a byte of a piece", x.state(3), 1);
            if (way == 0) {
                Kit.due("close", x.close(), true);
            } else if (way == 1) {
                Kit.feed(x, 0);
            } else {
                Kit.feed(x, 201);
                for (int i = 0; i < 5; i++) {
                    Kit.feed(x, 9);
                    x.tick();
                    Kit.feed(x, i < 4 ? Kit.bytes(0) : Kit.bytes());
                }
            }
            for (int what : new int[] {0, 1, 3, 4, 5}) {
                Kit.due("state(" + what + ") of the closed line", x.state(what), 0);
            }
            Kit.due("open", x.open(), true);
            Kit.due("none waits", x.state(3), 0);
            Kit.feed(x, Kit.usualRequest());
            Kit.due("a command is wanted", x.state(4), 0);
            Kit.due("nothing of it", x.state(5), 0);
            Kit.feed(x, Kit.command(1, 1, 8, 0));
            Kit.due("the output stayed", Kit.takeAll(x), Kit.join(Kit.answer(1, 1, 1, 0, 0),
                    way == 2 ? Kit.bytes(7, 0) : Kit.bytes(), Kit.piece(2, 1, 0, 3, 0, 5, 0, 7, 1),
                    Kit.answer(1, 1, 8, 0, 0)));
        }
    }

    /** "in ENDING nothing else matters" */
    private static void nothingElseMattersInEnding() {
        for (int type = 0; type <= 255; type++) {
            if (type != 7) {
                Node x = ending();
                x.tick();
                Kit.feed(x, Kit.piece(type, 1, 1, 1, 1, 1));
                Kit.due("piece " + type + " in ENDING", x.state(0), Kit.ENDING);
                Kit.due("the timer goes on", x.state(1), 4);
                Kit.due("nothing is written", x.state(2), 0);
                Kit.due("none waits", x.state(3), 0);
            }
        }
        Node x = ending();
        Kit.feed(x, Kit.join(Kit.usualRequest(), Kit.command(1, 1, 1, 0), Kit.command(3, 2, 1, 1),
                Kit.set(3, Kit.text(80, "a"))));
        Kit.due("nothing is answered", x.state(7), 0);
        Kit.due("nothing is kept", x.state(6), 0);
        Kit.due("no context", x.context(1), RecordNode.NONE);
    }

    /** "In any state but CLOSED a piece 7 closes the line": of any length. */
    private static void piece7ClosesTheLine() {
        for (int state = Kit.WAITING; state <= Kit.ENDING; state++) {
            for (int length : new int[] {0, 1, 2, 5, 200}) {
                Node x = in(state);
                Kit.feed(x, Kit.piece(7, Kit.many(length, 1)));
                Kit.due("closed", x.state(0), Kit.CLOSED);
                Kit.due("no timer", x.state(1), 0);
                Kit.due("nothing is written", x.state(2), 0);
                Kit.due("close", x.close(), false);
            }
        }
    }
}
