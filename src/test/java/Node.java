/**
 * A RecordNode that counts its calls: the document promises nothing behind the 512th, so a test
 * that goes on longer is itself wrong.
 */
final class Node {
    private static final int MOST_CALLS = 512;

    private final RecordNode node;
    private int calls = 0;

    Node(int room) {
        node = new RecordNode(room);
    }

    private RecordNode called() {
        calls++;
        if (calls > MOST_CALLS) {
            Kit.due("calls of one object in a test", calls, MOST_CALLS);
        }
        return node;
    }

    int calls() {
        return calls;
    }

    boolean type(long bytes, int n) {
        return called().type(bytes, n);
    }

    void clear() {
        called().clear();
    }

    int check(int syntax) {
        return called().check(syntax);
    }

    int convert(int from, int to) {
        return called().convert(from, to);
    }

    int at(int k) {
        return called().at(k);
    }

    boolean open() {
        return called().open();
    }

    boolean close() {
        return called().close();
    }

    boolean feed(long bytes, int n) {
        return called().feed(bytes, n);
    }

    boolean send() {
        return called().send();
    }

    int tick() {
        return called().tick();
    }

    int take() {
        return called().take();
    }

    int state(int what) {
        return called().state(what);
    }

    int context(int id) {
        return called().context(id);
    }

    int record(int k, int i) {
        return called().record(k, i);
    }
}
