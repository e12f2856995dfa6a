/** The TIMER: when it begins, what does not touch it, and what its end does. */
public final class BoundaryTimerTest {
    public static void main(String[] args) {
        noTimer();
        fiveInWaiting();
        fiveInEnding();
        notTouchedInWaiting();
        notTouchedInEnding();
        noneInReady();
        beginsAgainWithEnding();
        beginsAgainWithWaiting();
        atZeroTheLineIsClosed();
        oneBeforeZero();
        Kit.end();
    }

    private static void timer(String what, Node x, int want) {
        Kit.due("the timer " + what, x.state(1), want);
    }

    private static void ticks(Node x, int from, int to) {
        for (int want = from; want >= to; want--) {
            Kit.due("tick", x.tick(), want);
            timer("behind it", x, want);
        }
    }

    /** "(0 when none runs ..)" */
    private static void noTimer() {
        Node x = new Node(1);
        for (int i = 0; i < 6; i++) {
            Kit.due("tick of a closed line", x.tick(), 0);
        }
        Kit.due("closed", x.state(0), Kit.CLOSED);
        x.open();
        timer("is not lowered before it begins", x, 5);
    }

    /** "it is 5 when that begins, each tick lowers it, and at 0 the line is closed" */
    private static void fiveInWaiting() {
        Node x = Kit.waiting(1);
        timer("of WAITING", x, 5);
        ticks(x, 4, 1);
        Kit.due("still WAITING at 1", x.state(0), Kit.WAITING);
        ticks(x, 0, 0);
        Kit.due("closed at 0", x.state(0), Kit.CLOSED);
        Kit.due("tick behind", x.tick(), 0);
        Kit.due("close", x.close(), false);
        Kit.due("open", x.open(), true);
    }

    private static void fiveInEnding() {
        int[][] ways = {Kit.piece(5), Kit.piece(9), Kit.bytes(4, 201), Kit.data(1, 2), Kit.data(1, 3)};
        for (int[] way : ways) {
            Node x = Kit.ready(1);
            Kit.feed(x, way);
            timer("of ENDING", x, 5);
            ticks(x, 4, 1);
            Kit.due("still ENDING at 1", x.state(0), Kit.ENDING);
            ticks(x, 0, 0);
            Kit.due("closed at 0", x.state(0), Kit.CLOSED);
        }
    }

    /** Only ticks lower it, and only a beginning sets it. */
    private static void notTouchedInWaiting() {
        Node x = Kit.waiting(1);
        ticks(x, 4, 3);
        Kit.feed(x, 1, 5, 1, 1);
        timer("with input", x, 3);
        Kit.due("open in WAITING", x.open(), false);
        timer("with open", x, 3);
        Kit.type(x, 1);
        Kit.due("send", x.send(), true);
        timer("with send", x, 3);
        Kit.dueThrows("take", java.util.NoSuchElementException.class, x::take);
        Kit.dueThrows("feed of 0", IllegalArgumentException.class, () -> x.feed(0, 0) ? 1 : 0);
        timer("with refused calls", x, 3);
        ticks(x, 2, 1);
        Kit.feed(x, 1, 1);
        Kit.due("READY at the last tick but one", x.state(0), Kit.READY);
        timer("is gone", x, 0);
    }

    private static void notTouchedInEnding() {
        Node x = Kit.ready(1);
        Kit.feed(x, Kit.piece(5));
        ticks(x, 4, 2);
        Kit.feed(x, Kit.join(Kit.piece(5), Kit.piece(9), Kit.usualRequest(), Kit.bytes(4, 200, 1)));
        timer("with pieces that do not matter", x, 2);
        Kit.due("open in ENDING", x.open(), false);
        timer("with open", x, 2);
        ticks(x, 1, 0);
        Kit.due("closed", x.state(0), Kit.CLOSED);
        Kit.due("none waits", x.state(3), 0);
    }

    /** In READY none runs, however long it lasts. */
    private static void noneInReady() {
        Node x = Kit.waiting(1);
        ticks(x, 4, 1);
        Kit.feed(x, Kit.usualRequest());
        timer("of READY", x, 0);
        for (int i = 0; i < 12; i++) {
            Kit.due("tick in READY", x.tick(), 0);
        }
        Kit.due("still READY", x.state(0), Kit.READY);
        Kit.takeAll(x);
        Kit.feed(x, Kit.command(1, 1, 1, 0));
        Kit.due("it answers", Kit.takeAll(x), Kit.answer(1, 1, 1, 0, 0));
        Kit.feed(x, Kit.piece(5));
        timer("of ENDING", x, 5);
    }

    /** ENDING right behind WAITING is a beginning of its own. */
    private static void beginsAgainWithEnding() {
        int[][] ways = {Kit.piece(9), Kit.piece(1, 2, 1, 1, 1, 1), Kit.piece(1, 1, 2, 1, 1, 1), Kit.bytes(1, 201)};
        for (int[] way : ways) {
            for (int left = 5; left >= 1; left--) {
                Node x = Kit.waiting(1);
                ticks(x, 4, left);
                Kit.feed(x, way);
                Kit.due("ENDING", x.state(0), Kit.ENDING);
                timer("of ENDING", x, 5);
                ticks(x, 4, 0);
            }
        }
    }

    private static void beginsAgainWithWaiting() {
        Node x = Kit.waiting(1);
        ticks(x, 4, 2);
        Kit.due("close", x.close(), true);
        timer("of a closed line", x, 0);
        Kit.due("tick", x.tick(), 0);
        Kit.due("open", x.open(), true);
        timer("of the new one", x, 5);
        ticks(x, 4, 0);
        Kit.due("open", x.open(), true);
        timer("of the next one", x, 5);
    }

    /** "When the line closes, input that is not complete .. forgotten; the output stays" */
    private static void atZeroTheLineIsClosed() {
        Node x = Kit.waiting(1);
        Kit.feed(x, 1, 5, 1);
        ticks(x, 4, 0);
        Kit.due("none waits", x.state(3), 0);
        Kit.due("feed", x.feed(1, 1), false);
        Kit.due("open", x.open(), true);
        Kit.due("none waits", x.state(3), 0);
        Kit.feed(x, Kit.piece(9));
        Kit.feed(x, 9, 9);
        ticks(x, 4, 0);
        Kit.due("none waits", x.state(3), 0);
        Kit.due("the output stays", Kit.takeAll(x), 7, 0);
    }

    private static void oneBeforeZero() {
        Node x = Kit.waiting(1);
        ticks(x, 4, 1);
        Kit.due("feed at the last moment", x.feed(0x01050101010101L, 7), true);
        Kit.due("READY", x.state(0), Kit.READY);
        Kit.due("tick", x.tick(), 0);
        Kit.due("still READY", x.state(0), Kit.READY);
        Node y = Kit.waiting(1);
        ticks(y, 4, 0);
        Kit.due("feed a moment later", y.feed(0x01050101010101L, 7), false);
        Kit.due("nothing is written", y.state(2), 0);
    }
}
