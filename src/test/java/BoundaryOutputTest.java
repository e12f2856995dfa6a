import java.util.NoSuchElementException;

/** The OUTPUT of 900 bytes: the last piece that fits, the first that does not, and its wrap-around. */
public final class BoundaryOutputTest {
    private static final int ROOM = 900;

    public static void main(String[] args) {
        accepted();
        refused();
        brokenOffInWaiting();
        brokenOffInReady();
        released();
        echoes();
        storeAnswers();
        findAnswers();
        norWhatWouldComeBehind();
        theOutputStays();
        overTheEndOfTheRow();
        anEmptyOutput();
        Kit.end();
    }

    /** READY, with so many bytes of room left in the output; one record may be kept. */
    private static Node readyWith(int left) {
        Node x = Kit.ready(1);
        Kit.fill(x, ROOM - left);
        return x;
    }

    private static Node waitingWith(int left) {
        Node x = readyWith(left);
        Kit.due("close", x.close(), true);
        Kit.due("open", x.open(), true);
        return x;
    }

    /** Of a full output the last piece cannot be seen: 512 calls do not take out so many bytes. */
    private static void fits(String what, Node x, int state) {
        Kit.due(what + " fits: the state", x.state(0), state);
        Kit.due(what + " fits: the output is full", x.state(2), ROOM);
    }

    /** "when one does not fit, it is not written .. and the line is closed" */
    private static void doesNotFit(String what, Node x, int left) {
        Kit.due(what + " does not fit: closed", x.state(0), Kit.CLOSED);
        Kit.due(what + " does not fit: not written", x.state(2), ROOM - left);
        for (int state : new int[] {1, 3, 4, 5}) {
            Kit.due(what + " does not fit: state(" + state + ")", x.state(state), 0);
        }
        Kit.due(what + " does not fit: no context", x.context(1), RecordNode.NONE);
        Kit.due(what + " does not fit: open", x.open(), true);
        Kit.due(what + " does not fit: WAITING", x.state(0), Kit.WAITING);
    }

    private static void inWaiting(String what, int state, int[] input, int... piece) {
        Node x = waitingWith(piece.length);
        Kit.feed(x, input);
        fits(what, x, state);
        for (int left : new int[] {piece.length - 1, 0}) {
            x = waitingWith(left);
            Kit.feed(x, Kit.join(input, Kit.bytes(9)));
            doesNotFit(what, x, left);
        }
    }

    private static void inReady(String what, int state, int[] input, int... piece) {
        Node x = readyWith(piece.length);
        Kit.feed(x, input);
        fits(what, x, state);
        for (int left : new int[] {piece.length - 1, 0}) {
            x = readyWith(left);
            Kit.feed(x, Kit.join(input, Kit.bytes(9)));
            doesNotFit(what, x, left);
        }
    }

    private static void accepted() {
        inWaiting("ACCEPTED with a context", Kit.READY, Kit.piece(1, 1, 1, 1, 1, 1), Kit.piece(2, 1, 0));
        inWaiting("ACCEPTED with two", Kit.READY, Kit.piece(1, 1, 1, 1, 1, 1, 9, 2, 2), Kit.piece(2, 1, 0, 9, 1));
        inWaiting("ACCEPTED with four", Kit.READY, Kit.usualRequest(), Kit.piece(2, 1, 0, 3, 0, 5, 0, 7, 1));
    }

    private static void refused() {
        inWaiting("a refused version", Kit.ENDING, Kit.piece(1, 2, 1, 1, 1, 1), 3, 1, 1);
        inWaiting("a refused application", Kit.ENDING, Kit.piece(1, 1, 2, 1, 1, 1), 3, 1, 2);
    }

    private static void brokenOffInWaiting() {
        inWaiting("broken off by a piece", Kit.ENDING, Kit.piece(9), 7, 0);
        inWaiting("broken off by a request", Kit.ENDING, Kit.piece(1, 1, 1), 7, 0);
        inWaiting("broken off by a length", Kit.ENDING, Kit.bytes(1, 201), 7, 0);
    }

    private static void brokenOffInReady() {
        inReady("broken off by a piece", Kit.ENDING, Kit.piece(9), 7, 0);
        inReady("broken off by a length", Kit.ENDING, Kit.bytes(4, 255), 7, 0);
        inReady("broken off by a fragment", Kit.ENDING, Kit.data(1, 2), 7, 0);
        inReady("broken off by a command", Kit.ENDING, Kit.data(1, 3), 7, 0);
    }

    private static void released() {
        inReady("released", Kit.ENDING, Kit.piece(5), 6, 0);
    }

    private static void echoes() {
        for (int numberBytes = 1; numberBytes <= 4; numberBytes++) {
            inReady("ECHO", Kit.READY, Kit.echo(numberBytes), Kit.echoAnswer(numberBytes));
        }
        Node x = readyWith(15);
        int answered = x.state(7);
        Kit.feed(x, Kit.echo(1));
        Kit.due("counted although it did not fit", x.state(7), answered + 1);
    }

    /** Each status, and whether the record is kept; it is counted in any case. */
    private static void storeAnswers() {
        int[] good = Kit.join(Kit.command(3, 2, 9, 1), Kit.set(3, Kit.text(80, "a")));
        int[] faulty = Kit.join(Kit.command(3, 2, 9, 1), Kit.set(3, 0));
        int[] nameless = Kit.join(Kit.command(3, 2, 9, 1), Kit.set(3));
        inReady("STORE, 0", Kit.READY, good, Kit.answer(3, 2, 9, 0, 0));
        inReady("STORE, 3", Kit.READY, faulty, Kit.answer(3, 2, 9, 0, 3));
        inReady("STORE, 4", Kit.READY, nameless, Kit.answer(3, 2, 9, 0, 4));
        inReady("the wrong kind", Kit.READY, Kit.command(3, 1, 9, 0), Kit.answer(3, 1, 9, 0, 2));
        for (int[] input : new int[][] {good, faulty, nameless}) {
            Node x = readyWith(15);
            int answered = x.state(7);
            Kit.feed(x, input);
            Kit.due("counted although it did not fit", x.state(7), answered + 1);
            Kit.due("records", x.state(6), input == good ? 1 : 0);
        }
    }

    /** READY, with one record, and so many bytes of room left. */
    private static Node keptWith(int left) {
        Node x = Kit.ready(1);
        Kit.store(x, Kit.text(80, "abcdef"));
        Kit.fill(x, ROOM - left);
        return x;
    }

    /** 16 bytes, 4 + 9 bytes, 16 bytes: each of them may be the first that does not fit. */
    private static void findAnswers() {
        int[] input = Kit.join(Kit.command(5, 3, 6, 1), Kit.set(5, Kit.text(80, "")));
        for (int left = 0; left <= 45; left++) {
            Node x = keptWith(left);
            int answered = x.state(7);
            Kit.feed(x, Kit.join(input, Kit.bytes(9)));
            int written = left < 16 ? 0 : left < 29 ? 16 : left < 45 ? 29 : 45;
            Kit.due("the state with room for " + left, x.state(0), left == 45 ? Kit.READY : Kit.CLOSED);
            Kit.due("counted once", x.state(7), answered + 1);
            Kit.due("how many are written", x.state(2), ROOM - left + written);
            Kit.due("what waits", x.state(3), left == 45 ? 1 : 0);
        }
        inReady("FIND of nothing", Kit.READY, input, Kit.answer(5, 3, 6, 0, 0));
        inReady("FIND, 3", Kit.READY, Kit.command(5, 3, 6, 0), Kit.answer(5, 3, 6, 0, 3));
    }

    /** "nor what would come behind it": though that would fit. */
    private static void norWhatWouldComeBehind() {
        int[] large = Kit.text(80, "abcdefghijklmnop");
        for (int left : new int[] {15, 16, 16 + 16, 16 + 22, 16 + 23, 16 + 23 + 15, 16 + 23 + 16}) {
            Node x = Kit.ready(2);
            Kit.store(x, large);
            Kit.store(x, Kit.text(80, "b"));
            Kit.fill(x, ROOM - left);
            Kit.feed(x, Kit.join(Kit.command(5, 3, 6, 1), Kit.set(5, Kit.text(80, "")), Kit.echo(1)));
            int written = left < 16 ? 0 : left < 16 + 23 ? 16 : left < 16 + 23 + 16 ? 16 + 23 : 16 + 23 + 16;
            Kit.due("only what came before, with room for " + left, x.state(2), ROOM - left + written);
            Kit.due("closed", x.state(0), Kit.CLOSED);
        }
    }

    /** "the output stays": when the line closes, and when it is opened. */
    private static void theOutputStays() {
        Node x = readyWith(0);
        Kit.due("full and READY", x.state(0), Kit.READY);
        Kit.feed(x, Kit.piece(7));
        Kit.due("closed by the other end", x.state(2), ROOM);
        Kit.due("open", x.open(), true);
        Kit.due("opened again", x.state(2), ROOM);
        for (int i = 0; i < 5; i++) {
            x.tick();
        }
        Kit.due("closed by the timer", x.state(0), Kit.CLOSED);
        Kit.due("still full", x.state(2), ROOM);
        Kit.due("the first byte", x.take(), 4);
        Kit.due("one is taken", x.state(2), ROOM - 1);
        x.open();
        Kit.feed(x, Kit.piece(9));
        Kit.due("one byte of room", x.state(0), Kit.CLOSED);
        Kit.due("the second byte", x.take(), Kit.echoAnswer(4)[1]);
        x.open();
        Kit.feed(x, Kit.piece(9));
        Kit.due("two bytes of room", x.state(0), Kit.ENDING);
        Kit.due("full again", x.state(2), ROOM);
    }

    /** Bytes come out in their order, also when more than 900 have been written in all. */
    private static void overTheEndOfTheRow() {
        Node x = Kit.ready(1);
        int[] due = new int[0];
        for (int i = 0; i < 36; i++) {
            Kit.feed(x, Kit.echo(1 + i % 4));
            due = Kit.join(due, Kit.echoAnswer(1 + i % 4));
        }
        Kit.fill(x, ROOM);
        takeSome(x, due, 0, 200);
        Kit.fill(x, ROOM);
        Kit.due("READY", x.state(0), Kit.READY);
        takeSome(x, due, 200, 205);
        Kit.due("five bytes of room", x.state(2), ROOM - 5);
        Kit.feed(x, Kit.echo(1));
        Kit.due("an answer does not fit", x.state(0), Kit.CLOSED);
        takeSome(x, due, 205, 300);
        Kit.due("the others stay", x.state(2), ROOM - 100);
    }

    private static void takeSome(Node x, int[] due, int from, int to) {
        for (int i = from; i < to; i++) {
            Kit.due("byte " + i + " of the output", x.take(), due[i]);
        }
    }

    /** "NoSuchElementException when there is none": before the first byte and behind the last. */
    private static void anEmptyOutput() {
        Node x = new Node(1);
        Kit.dueThrows("take of a new object", NoSuchElementException.class, x::take);
        x.open();
        Kit.feed(x, Kit.piece(9));
        Kit.due("two bytes", x.state(2), 2);
        Kit.due("the first", x.take(), 7);
        Kit.due("the last", x.take(), 0);
        Kit.dueThrows("take behind the last", NoSuchElementException.class, x::take);
        Kit.dueThrows("take once more", NoSuchElementException.class, x::take);
        Kit.due("none", x.state(2), 0);
        Kit.due("the line stays", x.state(0), Kit.ENDING);
    }
}
