/** Promise 11: tick, and the timer of WAITING and ENDING. */
public final class Promise11TickTest {
    public static void main(String[] args) {
        Node x = new Node(1);
        Kit.due("tick on a closed line", x.tick(), 0);
        x.open();
        runsOut("WAITING", x);
        x.open();
        x.tick();
        x.tick();
        Kit.feed(x, Kit.usualRequest());
        Kit.takeAll(x);
        for (int i = 0; i < 7; i++) {
            Kit.due("tick in READY", x.tick(), 0);
        }
        Kit.due("still READY", x.state(0), Kit.READY);
        Kit.feed(x, Kit.piece(5));
        Kit.feed(x, 1, 200, 3);
        runsOut("ENDING", x);
        Kit.due("the output stays", Kit.takeAll(x), 6, 0);
        beginsAgain();
        Kit.end();
    }

    private static void runsOut(String what, Node x) {
        Kit.due("timer at the beginning of " + what, x.state(1), 5);
        for (int want = 4; want >= 0; want--) {
            Kit.due("tick in " + what, x.tick(), want);
            Kit.due("the timer", x.state(1), want);
            Kit.due("closed only at 0", x.state(0) == Kit.CLOSED, want == 0);
        }
        Kit.due("input is forgotten", x.state(3), 0);
        Kit.due("tick behind " + what, x.tick(), 0);
    }

    /** ENDING begins with a timer of 5 also when it comes right behind WAITING. */
    private static void beginsAgain() {
        Node x = Kit.waiting(1);
        x.tick();
        x.tick();
        x.tick();
        Kit.feed(x, Kit.piece(9));
        runsOut("ENDING behind WAITING", x);
    }
}
