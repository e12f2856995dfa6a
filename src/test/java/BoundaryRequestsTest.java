import java.util.ArrayList;
import java.util.List;

/** The REQUEST of an association at its limits, and the pieces that READY does not want. */
public final class BoundaryRequestsTest {
    private static final int[] OFF = {7, 0};

    public static void main(String[] args) {
        oneToFourContexts();
        lengthOfARequest();
        oddIds();
        idsUnlikeTheOthers();
        otherPiecesInWaiting();
        contextsBeforeTheVersion();
        evenVersions();
        otherApplications();
        services();
        syntaxes();
        otherPiecesInReady();
        release();
        Kit.end();
    }

    /** The output, and the state behind it. */
    private static Node due(String what, int state, int[] piece, int... want) {
        Node x = Kit.waiting(1);
        x.tick();
        Kit.feed(x, piece);
        Kit.due(what + ": the state", x.state(0), state);
        Kit.due(what + ": the timer", x.state(1), state == Kit.READY ? 0 : 5);
        Kit.due(what + ": none waits", x.state(3), 0);
        Kit.due(what + ": what is written", Kit.takeAll(x), want);
        return x;
    }

    private static int[] request(int version, int application, int... contexts) {
        return Kit.piece(1, Kit.join(Kit.bytes(version, application), contexts));
    }

    /** "1 to 4 CONTEXTS of three bytes" */
    private static void oneToFourContexts() {
        for (int n = 0; n <= 6; n++) {
            int[] contexts = new int[0];
            int[] results = new int[0];
            for (int i = 0; i < n; i++) {
                contexts = Kit.join(contexts, Kit.bytes(2 * i + 1, 1, 1));
                results = Kit.join(results, Kit.bytes(2 * i + 1, 0));
            }
            boolean fits = n >= 1 && n <= 4;
            Node x = due(n + " contexts", fits ? Kit.READY : Kit.ENDING, request(1, 1, contexts),
                    fits ? Kit.piece(2, results) : OFF);
            for (int i = 0; i < n; i++) {
                Kit.due("context " + i + " of " + n, x.context(2 * i + 1), fits ? 0 : RecordNode.NONE);
            }
        }
        due("66 contexts", Kit.ENDING, Kit.piece(1, Kit.many(200, 1)), OFF);
    }

    /** "(or the length is not 2 and 3 for each): broken off" */
    private static void lengthOfARequest() {
        int[] whole = {1, 1, 1, 1, 1, 3, 1, 1, 5, 1, 1, 7, 1, 1, 9, 1, 1};
        for (int length = 0; length <= whole.length; length++) {
            boolean fits = length == 5 || length == 8 || length == 11 || length == 14;
            Node x = Kit.waiting(1);
            Kit.feed(x, Kit.piece(1, java.util.Arrays.copyOf(whole, length)));
            Kit.due("a request of the length " + length, x.state(0), fits ? Kit.READY : Kit.ENDING);
            Kit.due("what is written", x.take(), fits ? 2 : 7);
        }
    }

    /** "an ID, odd": in any of the contexts. */
    private static void oddIds() {
        for (int id = 0; id <= 255; id++) {
            boolean odd = id % 2 == 1;
            due("the ID " + id, odd ? Kit.READY : Kit.ENDING, request(1, 1, id, 1, 1),
                    odd ? Kit.piece(2, id, 0) : OFF);
        }
        for (int place = 0; place < 4; place++) {
            int[] contexts = {1, 1, 1, 3, 1, 1, 5, 1, 1, 7, 1, 1};
            contexts[3 * place]++;
            due("an even ID in context " + place, Kit.ENDING, request(1, 1, contexts), OFF);
        }
    }

    /** "and unlike the others": each two of four. */
    private static void idsUnlikeTheOthers() {
        for (int first = 0; first < 4; first++) {
            for (int second = first + 1; second < 4; second++) {
                int[] contexts = {1, 1, 1, 3, 2, 1, 5, 3, 1, 7, 1, 2};
                contexts[3 * second] = contexts[3 * first];
                due("the IDs " + first + " and " + second, Kit.ENDING, request(1, 1, contexts), OFF);
            }
        }
        due("services and syntaxes may be alike", Kit.READY, request(1, 1, 9, 2, 2, 3, 2, 2, 255, 2, 2, 1, 2, 2),
                Kit.piece(2, 9, 1, 3, 1, 255, 1, 1, 1));
    }

    /** "In WAITING: a piece 1 REQUEST .. Otherwise .. broken off" */
    private static void otherPiecesInWaiting() {
        for (int type = 0; type <= 255; type++) {
            if (type != 1 && type != 7) {
                due("piece " + type, Kit.ENDING, Kit.piece(type, 1, 1, 1, 1, 1), OFF);
                due("piece " + type + " of no bytes", Kit.ENDING, Kit.piece(type), OFF);
            }
        }
    }

    /** "broken off, whatever the version" */
    private static void contextsBeforeTheVersion() {
        for (int version : new int[] {0, 1, 2, 254, 255}) {
            for (int application = 0; application <= 2; application++) {
                due("no context", Kit.ENDING, request(version, application), OFF);
                due("five contexts", Kit.ENDING,
                        request(version, application, 1, 1, 1, 3, 1, 1, 5, 1, 1, 7, 1, 1, 9, 1, 1), OFF);
                due("a byte too few", Kit.ENDING, request(version, application, 1, 1), OFF);
                due("a byte too many", Kit.ENDING, request(version, application, 1, 1, 1, 3), OFF);
                due("an even ID", Kit.ENDING, request(version, application, 2, 1, 1), OFF);
                due("two like IDs", Kit.ENDING, request(version, application, 1, 1, 1, 1, 2, 1), OFF);
            }
        }
        due("only a version", Kit.ENDING, Kit.piece(1, 2), OFF);
        due("nothing", Kit.ENDING, Kit.piece(1), OFF);
    }

    /** "If the version is even, the piece 3 with the byte 1": before the application. */
    private static void evenVersions() {
        for (int version = 0; version <= 255; version++) {
            boolean even = version % 2 == 0;
            due("version " + version, even ? Kit.ENDING : Kit.READY, request(version, 1, 1, 1, 1),
                    even ? Kit.piece(3, 1) : Kit.piece(2, 1, 0));
        }
        due("an even version, another application", Kit.ENDING, request(2, 2, 1, 1, 1), 3, 1, 1);
        due("an even version, no service", Kit.ENDING, request(2, 1, 1, 9, 9), 3, 1, 1);
    }

    /** "else, if the application is not 1, the piece 3 with the byte 2: ENDING" */
    private static void otherApplications() {
        for (int application = 0; application <= 255; application++) {
            boolean known = application == 1;
            Node x = due("application " + application, known ? Kit.READY : Kit.ENDING, request(3, application, 1, 1, 1),
                    known ? Kit.piece(2, 1, 0) : Kit.piece(3, 2));
            Kit.due("the context", x.context(1), known ? 0 : RecordNode.NONE);
        }
    }

    /** "2 if the service is not 1 ECHO, 2 STORE or 3 FIND": whatever the syntaxes. */
    private static void services() {
        for (int service = 0; service <= 255; service++) {
            boolean known = service >= 1 && service <= 3;
            for (int syntaxes = 0; syntaxes <= 3; syntaxes++) {
                int result = !known ? 2 : syntaxes == 0 ? 3 : syntaxes == 2 ? 1 : 0;
                Node x = due("service " + service, Kit.READY, request(1, 1, 5, service, syntaxes), 2, 2, 5, result);
                Kit.due("its result", x.context(5), result);
            }
        }
    }

    /** "else 0 if the syntaxes have the bit of value 1; else 1 if that of value 2; else 3" */
    private static void syntaxes() {
        for (int syntaxes = 0; syntaxes <= 255; syntaxes++) {
            int result = syntaxes % 2 == 1 ? 0 : syntaxes % 4 == 2 ? 1 : 3;
            due("syntaxes " + syntaxes, Kit.READY, request(1, 1, 5, 2, syntaxes), 2, 2, 5, result);
        }
    }

    /** "In READY .. Anything else: broken off." */
    private static void otherPiecesInReady() {
        List<Integer> types = new ArrayList<>();
        for (int type = 0; type <= 255; type++) {
            if (type != 4 && type != 5 && type != 7) {
                types.add(type);
            }
        }
        for (int type : types) {
            for (int[] piece : new int[][] {Kit.piece(type), Kit.piece(type, 1, 3, 1, 1, 1, 2, 1, 1, 3, 1, 0)}) {
                Node x = Kit.ready(1);
                Kit.feed(x, piece);
                Kit.due("piece " + type + " in READY", x.state(0), Kit.ENDING);
                Kit.due("the timer", x.state(1), 5);
                Kit.due("what is written", Kit.takeAll(x), OFF);
                Kit.due("nothing is answered", x.state(7), 0);
            }
        }
        Node x = Kit.ready(1);
        Kit.feed(x, Kit.usualRequest());
        Kit.due("a second request", x.state(0), Kit.ENDING);
        Kit.due("is broken off", Kit.takeAll(x), OFF);
    }

    /** "a piece 5 (of any length, as a piece 7): the piece 6 (length 0) is written, ENDING" */
    private static void release() {
        for (int length : new int[] {0, 1, 2, 3, 199, 200}) {
            Node x = Kit.ready(1);
            Kit.feed(x, Kit.piece(5, Kit.many(length, 5)));
            Kit.due("ENDING", x.state(0), Kit.ENDING);
            Kit.due("the timer", x.state(1), 5);
            Kit.due("what is written", Kit.takeAll(x), 6, 0);
        }
        Node x = Kit.ready(1);
        Kit.feed(x, Kit.join(Kit.command(3, 2, 1, 1), Kit.data(3, 0, 1), Kit.piece(5)));
        Kit.due("also within a message", x.state(0), Kit.ENDING);
        Kit.due("what is written", Kit.takeAll(x), 6, 0);
        Kit.due("nothing is answered", x.state(7), 0);
    }
}
