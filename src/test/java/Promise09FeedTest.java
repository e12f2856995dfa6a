/** Promise 9: feed, and with it the line, its pieces and how an association begins and ends. */
public final class Promise09FeedTest {
    public static void main(String[] args) {
        wrongCounts();
        bytesComeHighestFirst();
        piecesComeInAnyParts();
        lengthsAbove200();
        requestsThatFit();
        requestsThatAreRefused();
        requestsThatAreBrokenOff();
        otherPiecesInWaiting();
        releaseInReady();
        otherPiecesInReady();
        piecesInEnding();
        whatComesBehindIsLost();
        answersThatDoNotFit();
        otherPiecesThatDoNotFit();
        Kit.end();
    }

    private static void wrongCounts() {
        Node x = new Node(1);
        int[] wrong = {0, 9, -1, Integer.MIN_VALUE, Integer.MAX_VALUE};
        for (int n : wrong) {
            Kit.dueThrows("feed with n = " + n + " on a closed line", IllegalArgumentException.class,
                    () -> x.feed(1, n) ? 1 : 0);
        }
        Kit.due("feed on a closed line", x.feed(1, 1), false);
        x.open();
        Kit.due("nothing came", x.state(3), 0);
        for (int n : wrong) {
            Kit.dueThrows("feed with n = " + n, IllegalArgumentException.class, () -> x.feed(1, n) ? 1 : 0);
        }
        Kit.due("still nothing came", x.state(3), 0);
    }

    private static void bytesComeHighestFirst() {
        Node x = Kit.waiting(1);
        Kit.due("feed", x.feed(0x0105010101010101L, 7), true);
        Kit.due("broken off by piece 5 in WAITING", x.state(0), Kit.ENDING);
        x = Kit.waiting(1);
        Kit.due("feed", x.feed(0x7777010501010101L, 6), true);
        Kit.due("six bytes wait", x.state(3), 6);
        Kit.due("the seventh", x.feed(1, 1), true);
        Kit.due("READY", x.state(0), Kit.READY);
        Kit.due("accepted", Kit.takeAll(x), 2, 2, 1, 0);
    }

    private static void piecesComeInAnyParts() {
        int[] all = Kit.join(Kit.usualRequest(), Kit.command(1, 1, 3, 0), Kit.command(1, 1, 4, 0), Kit.piece(5, 9));
        for (int size = 1; size <= 8; size++) {
            Node x = Kit.waiting(1);
            for (int i = 0; i < all.length; i += size) {
                Kit.feed(x, java.util.Arrays.copyOfRange(all, i, Math.min(all.length, i + size)));
            }
            Kit.due("output in parts of " + size, Kit.takeAll(x), Kit.join(Kit.piece(2, 1, 0, 3, 0, 5, 0, 7, 1),
                    Kit.answer(1, 1, 3, 0, 0), Kit.answer(1, 1, 4, 0, 0), Kit.piece(6)));
            Kit.due("ENDING", x.state(0), Kit.ENDING);
        }
    }

    private static void lengthsAbove200() {
        for (int type = 0; type <= 8; type++) {
            Node x = Kit.waiting(1);
            Kit.feed(x, type, 201);
            Kit.due("201 in WAITING", x.state(0), Kit.ENDING);
            Kit.due("these two bytes are gone", x.state(3), 0);
            Kit.due("broken off", Kit.takeAll(x), 7, 0);
            Kit.feed(x, type, 255);
            Kit.due("255 in ENDING", x.state(0), Kit.CLOSED);
            Kit.due("nothing is written", x.state(2), 0);
            x = Kit.ready(1);
            Kit.feed(x, type, 255, 7);
            Kit.due("255 in READY", x.state(0), Kit.ENDING);
            Kit.due("what comes behind is a new piece", x.state(3), 1);
            Kit.due("broken off", Kit.takeAll(x), 7, 0);
            Kit.feed(x, 0);
            Kit.due("that one closes", x.state(0), Kit.CLOSED);
        }
        Node x = Kit.ready(1);
        Kit.feed(x, Kit.join(Kit.bytes(4, 200, 1, 1), Kit.many(197, 1)));
        Kit.due("200 is waited for", x.state(3), 201);
        Kit.due("READY", x.state(0), Kit.READY);
        Kit.feed(x, 1);
        Kit.due("198 bytes of a command", x.state(5), 198);
    }

    private static void requestsThatFit() {
        accepts(Kit.bytes(1, 1, 1, 1, 1), 1, 0);
        accepts(Kit.bytes(255, 1, 255, 3, 255), 255, 0);
        accepts(Kit.bytes(3, 1, 1, 1, 2), 1, 1);
        accepts(Kit.bytes(1, 1, 1, 1, 3), 1, 0);
        accepts(Kit.bytes(1, 1, 1, 1, 0), 1, 3);
        accepts(Kit.bytes(1, 1, 1, 1, 252), 1, 3);
        accepts(Kit.bytes(1, 1, 1, 1, 254), 1, 1);
        accepts(Kit.bytes(1, 1, 1, 0, 1), 1, 2);
        accepts(Kit.bytes(1, 1, 1, 4, 1), 1, 2);
        accepts(Kit.bytes(1, 1, 1, 255, 0), 1, 2);
        accepts(Kit.bytes(1, 1, 9, 2, 1, 3, 3, 0, 5, 4, 3, 1, 1, 2), 9, 0, 3, 3, 5, 2, 1, 1);
    }

    private static void accepts(int[] body, int... want) {
        Node x = Kit.waiting(1);
        x.tick();
        Kit.feed(x, Kit.piece(1, body));
        Kit.due("READY", x.state(0), Kit.READY);
        Kit.due("no timer", x.state(1), 0);
        Kit.due("accepted", Kit.takeAll(x), Kit.piece(2, want));
    }

    private static void requestsThatAreRefused() {
        refuses(1, 0, 1, 1, 1, 1);
        refuses(1, 2, 9, 1, 1, 1);
        refuses(1, 254, 1, 1, 9, 9);
        refuses(2, 1, 0, 1, 1, 1);
        refuses(2, 3, 2, 1, 1, 1);
        refuses(2, 255, 255, 1, 1, 1);
    }

    private static void refuses(int reason, int... body) {
        Node x = Kit.waiting(1);
        x.tick();
        Kit.feed(x, Kit.piece(1, body));
        Kit.due("ENDING", x.state(0), Kit.ENDING);
        Kit.due("the timer begins again", x.state(1), 5);
        Kit.due("refused", Kit.takeAll(x), 3, 1, reason);
    }

    private static void requestsThatAreBrokenOff() {
        breaksOff(Kit.piece(1));
        breaksOff(Kit.piece(1, 1));
        breaksOff(Kit.piece(1, 1, 1));
        breaksOff(Kit.piece(1, 2, 1));
        breaksOff(Kit.piece(1, 1, 1, 1));
        breaksOff(Kit.piece(1, 1, 1, 1, 1));
        breaksOff(Kit.piece(1, 1, 1, 1, 1, 1, 3));
        breaksOff(Kit.piece(1, 1, 1, 1, 1, 1, 3, 1));
        breaksOff(Kit.piece(1, 1, 1, 0, 1, 1));
        breaksOff(Kit.piece(1, 1, 1, 2, 1, 1));
        breaksOff(Kit.piece(1, 2, 1, 2, 1, 1));
        breaksOff(Kit.piece(1, 1, 9, 2, 1, 1));
        breaksOff(Kit.piece(1, 1, 1, 1, 1, 1, 1, 2, 1));
        breaksOff(Kit.piece(1, 1, 1, 1, 1, 1, 3, 1, 1, 5, 1, 1, 1, 2, 1));
        breaksOff(Kit.piece(1, 1, 1, 1, 1, 1, 3, 1, 1, 5, 1, 1, 4, 2, 1));
        breaksOff(Kit.piece(1, 1, 1, 1, 1, 1, 3, 1, 1, 5, 1, 1, 7, 1, 1, 9, 1, 1));
    }

    private static void breaksOff(int... piece) {
        Node x = Kit.waiting(1);
        x.tick();
        Kit.feed(x, piece);
        Kit.due("broken off by " + java.util.Arrays.toString(piece), x.state(0), Kit.ENDING);
        Kit.due("the timer begins again", x.state(1), 5);
        Kit.due("what is written", Kit.takeAll(x), 7, 0);
    }

    private static void otherPiecesInWaiting() {
        for (int type : new int[] {0, 2, 3, 4, 5, 6, 8, 255}) {
            breaksOff(Kit.piece(type));
            breaksOff(Kit.piece(type, 1, 1, 1, 1, 1));
        }
        for (int length : new int[] {0, 1, 200}) {
            Node x = Kit.waiting(1);
            Kit.feed(x, Kit.piece(7, Kit.many(length, 3)));
            Kit.due("piece 7 in WAITING", x.state(0), Kit.CLOSED);
            Kit.due("nothing is written", x.state(2), 0);
        }
    }

    private static void releaseInReady() {
        for (int length : new int[] {0, 1, 200}) {
            Node x = Kit.ready(1);
            Kit.feed(x, Kit.piece(5, Kit.many(length, 1)));
            Kit.due("piece 5 in READY", x.state(0), Kit.ENDING);
            Kit.due("timer", x.state(1), 5);
            Kit.due("what is written", Kit.takeAll(x), 6, 0);
            x = Kit.ready(1);
            Kit.feed(x, Kit.piece(7, Kit.many(length, 1)));
            Kit.due("piece 7 in READY", x.state(0), Kit.CLOSED);
            Kit.due("nothing is written", x.state(2), 0);
        }
    }

    private static void otherPiecesInReady() {
        for (int type : new int[] {0, 1, 2, 3, 6, 8, 255}) {
            Node x = Kit.ready(1);
            Kit.feed(x, Kit.piece(type, 1, 1, 1, 1, 1));
            Kit.due("piece " + type + " in READY", x.state(0), Kit.ENDING);
            Kit.due("what is written", Kit.takeAll(x), 7, 0);
        }
    }

    private static void piecesInEnding() {
        Node x = Kit.ready(1);
        Kit.feed(x, Kit.piece(5));
        Kit.takeAll(x);
        x.tick();
        for (int type : new int[] {0, 1, 2, 3, 4, 5, 6, 8}) {
            Kit.feed(x, Kit.piece(type, 1, 1, 1, 1, 1));
        }
        Kit.feed(x, Kit.join(Kit.usualRequest(), Kit.command(1, 1, 1, 0)));
        Kit.due("nothing matters in ENDING", x.state(0), Kit.ENDING);
        Kit.due("the timer stays", x.state(1), 4);
        Kit.due("nothing is written", x.state(2), 0);
        Kit.due("nothing is answered", x.state(7), 0);
        Kit.feed(x, 9, 3, 1);
        Kit.due("input waits here too", x.state(3), 3);
        Kit.feed(x, 7, 7, 7, 1);
        Kit.due("a 7 within a piece is none", x.state(0), Kit.ENDING);
        Kit.feed(x, 5);
        Kit.due("but piece 7 closes", x.state(0), Kit.CLOSED);
    }

    private static void whatComesBehindIsLost() {
        Node x = Kit.waiting(1);
        Kit.due("a feed that closes", x.feed(0x0700010501010101L, 8), true);
        Kit.due("closed", x.state(0), Kit.CLOSED);
        Kit.due("the rest is lost", x.state(3), 0);
        Kit.due("the next feed", x.feed(1, 1), false);
        x.open();
        Kit.due("still lost", x.state(3), 0);
    }

    /** READY, with 896 bytes of output in few calls: eight records that an empty set finds. */
    private static Node filledTo896() {
        Node x = Kit.ready(8);
        for (int k = 0; k < 8; k++) {
            Kit.store(x, Kit.text(80, "r" + k));
        }
        for (int i = 0; i < 4; i++) {
            Kit.feed(x, Kit.join(Kit.command(5, 3, 1, 1), Kit.set(5)));
        }
        for (int i = 0; i < 4; i++) {
            Kit.feed(x, Kit.command(1, 1, 1, 0));
        }
        Kit.due("filled", x.state(2), 896);
        return x;
    }

    private static Node filledTo900AndClosed() {
        Node x = filledTo896();
        for (int i = 0; i < 2; i++) {
            x.close();
            x.open();
            Kit.feed(x, Kit.piece(9));
        }
        x.close();
        Kit.due("full", x.state(2), 900);
        return x;
    }

    private static void takeSome(Node x, int n) {
        for (int i = 0; i < n; i++) {
            x.take();
        }
    }

    private static void answersThatDoNotFit() {
        Node x = filledTo896();
        takeSome(x, 11);
        Kit.feed(x, Kit.command(1, 1, 1, 0));
        Kit.due("an answer of 16 bytes where 15 have room", x.state(2), 885);
        Kit.due("it closes the line", x.state(0), Kit.CLOSED);
        Kit.due("it is counted", x.state(7), 17);
        x = filledTo896();
        takeSome(x, 12);
        Kit.feed(x, Kit.command(1, 1, 1, 0));
        Kit.due("where 16 have room", x.state(2), 900);
        Kit.due("the line stays", x.state(0), Kit.READY);
        Kit.feed(x, Kit.piece(5));
        Kit.due("no room to end", x.state(0), Kit.CLOSED);
        Kit.due("nothing is written", x.state(2), 900);
        x = filledTo896();
        takeSome(x, 30);
        Kit.feed(x, Kit.join(Kit.command(5, 3, 1, 1), Kit.set(5)));
        Kit.due("the first set that does not fit ends it", x.state(2), 866 + 20);
        Kit.due("closed", x.state(0), Kit.CLOSED);
        x = filledTo896();
        takeSome(x, 33);
        Kit.feed(x, Kit.join(Kit.command(5, 3, 1, 1), Kit.set(5)));
        Kit.due("a command may be written and its set not", x.state(2), 863 + 20 + 16);
        Kit.due("closed", x.state(0), Kit.CLOSED);
        Kit.due("counted once", x.state(7), 17);
        x = filledTo896();
        takeSome(x, 12);
        Kit.feed(x, Kit.join(Kit.command(3, 2, 1, 1), Kit.set(3, Kit.text(80, "r0")), Kit.command(3, 2, 1, 1),
                Kit.set(3, Kit.join(Kit.number(1, 1), Kit.text(80, "r1"))), Kit.command(1, 1, 1, 0)));
        Kit.due("closed by the second answer", x.state(0), Kit.CLOSED);
        Kit.due("the record was kept all the same", Kit.record(x, 1), Kit.join(Kit.number(1, 1), Kit.text(80, "r1")));
        Kit.due("the third message was lost", x.state(7), 18);
    }

    private static void otherPiecesThatDoNotFit() {
        Node x = filledTo900AndClosed();
        x.take();
        x.open();
        Kit.feed(x, 9, 201, 1, 5);
        Kit.due("one byte of room is not enough to break off", x.state(0), Kit.CLOSED);
        Kit.due("nothing is written", x.state(2), 899);
        Kit.due("the rest is lost", x.state(3), 0);
        takeSome(x, 2);
        x.open();
        Kit.feed(x, Kit.piece(1, 1, 1, 1, 1, 1));
        Kit.due("three are not enough to accept", x.state(0), Kit.CLOSED);
        x.open();
        Kit.feed(x, Kit.piece(1, 2, 1, 1, 1, 1));
        Kit.due("three are enough to refuse", x.state(0), Kit.ENDING);
        Kit.due("full", x.state(2), 900);
        x.close();
        takeSome(x, 2);
        x.open();
        Kit.feed(x, Kit.piece(1, 1, 2, 1, 1, 1));
        Kit.due("two are not", x.state(0), Kit.CLOSED);
        x.open();
        Kit.feed(x, Kit.piece(9));
        Kit.due("two are enough to break off", x.state(0), Kit.ENDING);
        Kit.due("full again", x.state(2), 900);
        x.close();
        takeSome(x, 4);
        x.open();
        Kit.feed(x, Kit.piece(1, 1, 1, 1, 1, 1));
        Kit.due("four are enough to accept", x.state(0), Kit.READY);
    }
}
