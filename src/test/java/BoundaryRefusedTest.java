import java.util.ArrayList;
import java.util.LinkedHashMap;
import java.util.List;
import java.util.Map;
import java.util.function.Consumer;
import java.util.function.ToIntFunction;

/**
 * "A method that throws changes nothing": nor does one that answers false or NONE, or that only
 * asks. Of two objects with the same calls behind them one is called once more; all that can be
 * seen of both, then and later, must be the same.
 */
public final class BoundaryRefusedTest {
    /** What a call answers; an exception as its name. */
    private interface Call extends ToIntFunction<Node> {
    }

    private record Situation(Consumer<Node> made, int[] rest) {
    }

    private static final Map<String, Situation> SITUATIONS = new LinkedHashMap<>();
    private static int refused = 0;

    public static void main(String[] args) {
        situations();
        for (Map.Entry<String, Situation> one : SITUATIONS.entrySet()) {
            everyCall(one.getKey(), one.getValue());
        }
        Kit.due("refused calls were met", refused > 300, true);
        Kit.end();
    }

    private static void situations() {
        int[] request = Kit.usualRequest();
        SITUATIONS.put("a new object", new Situation(x -> { }, request));
        SITUATIONS.put("a draft", new Situation(x -> Kit.type(x, 1, 1, 4, 5, 0, 0, 0), request));
        SITUATIONS.put("a faulty draft", new Situation(x -> Kit.type(x, 1, 4, 5), request));
        SITUATIONS.put("a full draft", new Situation(BoundaryRefusedTest::fullDraft, request));
        SITUATIONS.put("WAITING", new Situation(x -> {
            x.open();
            x.tick();
            Kit.feed(x, 1, 14, 1);
        }, java.util.Arrays.copyOfRange(request, 3, request.length)));
        SITUATIONS.put("within a command", new Situation(x -> {
            ready(x);
            Kit.feed(x, Kit.join(Kit.data(3, 1, 1, 1, 2, 2), Kit.bytes(4, 7, 3)));
        }, Kit.join(Kit.bytes(3, 1, 7, 3, 1, 1), Kit.set(3, Kit.text(80, "new")))));
        SITUATIONS.put("within a set", new Situation(x -> {
            ready(x);
            Kit.type(x, 160, 255, 252);
            Kit.feed(x, Kit.join(Kit.command(5, 3, 7, 1), Kit.data(5, 0, 80, 2), Kit.bytes(4)));
        }, Kit.join(Kit.bytes(3, 5, 2, 0), Kit.command(1, 1, 4, 0))));
        SITUATIONS.put("a full node", new Situation(x -> {
            ready(x);
            Kit.store(x, Kit.join(Kit.number(3, 3), Kit.text(80, "b")));
        }, Kit.join(Kit.command(3, 2, 1, 1), Kit.set(3, Kit.text(80, "c")))));
        SITUATIONS.put("ENDING", new Situation(x -> {
            ready(x);
            Kit.feed(x, Kit.join(Kit.piece(5), Kit.bytes(4, 2, 1)));
            x.tick();
            x.tick();
        }, Kit.bytes(1, 7)));
        SITUATIONS.put("CLOSED again", new Situation(x -> {
            ready(x);
            Kit.feed(x, Kit.join(Kit.command(1, 1, 1, 0), Kit.bytes(4, 9)));
            x.close();
        }, request));
        SITUATIONS.put("a full output", new Situation(x -> {
            ready(x);
            Kit.fill(x, 900);
        }, Kit.piece(5)));
    }

    /** READY with a record, and room for one more. */
    private static void ready(Node x) {
        x.open();
        Kit.feed(x, Kit.usualRequest());
        Kit.store(x, Kit.text(80, "a"));
    }

    /** 120 implicit bytes that would be more explicit ones. */
    private static void fullDraft(Node x) {
        int[] row = new int[0];
        for (int tag = 80; tag < 86; tag++) {
            row = Kit.join(row, Kit.bytes(tag, 16), Kit.many(16, 65));
        }
        Kit.type(x, Kit.join(row, Kit.bytes(86, 8), Kit.many(8, 65), Kit.bytes(87, 0)));
    }

    private static int of(boolean answer) {
        return answer ? 1 : 0;
    }

    /** A call that changes nothing whatever it answers is always tried, others where refused. */
    private static void everyCall(String where, Situation situation) {
        int[] wrong = {-1, 2, 9, Integer.MIN_VALUE, Integer.MAX_VALUE};
        for (int n : new int[] {0, 9, -1, Integer.MIN_VALUE, Integer.MAX_VALUE}) {
            due(where, "type of " + n, situation, x -> of(x.type(-1, n)), "0");
            due(where, "feed of " + n, situation, x -> of(x.feed(0x0700, n)), "IllegalArgumentException");
        }
        for (int syntax : wrong) {
            due(where, "check " + syntax, situation, x -> x.check(syntax), "IllegalArgumentException");
            due(where, "convert to " + syntax, situation, x -> x.convert(0, syntax), "IllegalArgumentException");
            due(where, "convert from " + syntax, situation, x -> x.convert(syntax, 1), "IllegalArgumentException");
        }
        for (int k : new int[] {-2, 120, 121, Integer.MIN_VALUE, Integer.MAX_VALUE}) {
            due(where, "at " + k, situation, x -> x.at(k), "NoSuchElementException");
            due(where, "record " + k, situation, x -> x.record(k, -1), "NoSuchElementException");
            due(where, "record 0 " + k, situation, x -> x.record(0, k), "NoSuchElementException");
        }
        for (int what : new int[] {-1, 8, Integer.MIN_VALUE, Integer.MAX_VALUE}) {
            due(where, "state " + what, situation, x -> x.state(what), "-1");
            due(where, "context " + what, situation, x -> x.context(what), "-1");
        }
        due(where, "check 0", situation, x -> x.check(0), null);
        due(where, "check 1", situation, x -> x.check(1), null);
        due(where, "at 0", situation, x -> x.at(0), null);
        due(where, "record 0 0", situation, x -> x.record(0, 0), null);
        due(where, "context 1", situation, x -> x.context(1), null);
        whereRefused(where, situation);
    }

    private static void whereRefused(String where, Situation situation) {
        Map<String, Call> calls = new LinkedHashMap<>();
        calls.put("type of 1", x -> of(x.type(7, 1)));
        calls.put("type of 8", x -> of(x.type(7, 8)));
        calls.put("convert 0 0", x -> x.convert(0, 0));
        calls.put("convert 0 1", x -> x.convert(0, 1));
        calls.put("convert 1 0", x -> x.convert(1, 0));
        calls.put("open", x -> of(x.open()));
        calls.put("close", x -> of(x.close()));
        calls.put("feed", x -> of(x.feed(0x0105010101010101L, 8)));
        calls.put("send", x -> of(x.send()));
        calls.put("take", Node::take);
        for (Map.Entry<String, Call> one : calls.entrySet()) {
            Node tried = new Node(2);
            situation.made.accept(tried);
            String answer = outcome(tried, one.getValue());
            boolean isThrown = answer.endsWith("Exception");
            boolean isBoolean = !one.getKey().startsWith("convert") && !one.getKey().equals("take");
            if (isThrown || isBoolean && answer.equals("0")) {
                refused++;
                due(where, one.getKey(), situation, one.getValue(), answer);
            }
        }
    }

    private static String outcome(Node x, Call call) {
        try {
            return Integer.toString(call.applyAsInt(x));
        } catch (RuntimeException e) {
            return e.getClass().getSimpleName();
        }
    }

    /** The answer, if one is told, and that nothing else has changed. */
    private static void due(String where, String what, Situation situation, Call call, String want) {
        Node x = new Node(2);
        situation.made.accept(x);
        Node twin = new Node(2);
        situation.made.accept(twin);
        for (int times = 0; times < 2; times++) {
            String got = outcome(x, call);
            Kit.due(where + ": " + what + " answered " + got + " for " + want, want == null || got.equals(want), true);
        }
        refused++;
        List<String> seen = all(x, situation.rest);
        List<String> due = all(twin, situation.rest);
        Kit.due(where + ", behind " + what + ": " + seen + " for " + due, seen.equals(due), true);
    }

    /** All that can be seen, at once and by the calls that follow. */
    private static List<String> all(Node x, int[] rest) {
        List<String> seen = new ArrayList<>();
        look(x, seen);
        seen.add("tick " + x.tick());
        for (int i = 0; i < rest.length; i++) {
            int value = rest[i];
            seen.add(outcome(x, y -> of(y.feed(value, 1))));
        }
        look(x, seen);
        for (int i = 0; i < 40; i++) {
            seen.add(outcome(x, Node::take));
        }
        seen.add(outcome(x, y -> y.convert(1, 1)));
        seen.add(outcome(x, y -> of(y.type(0x0102, 2))));
        seen.add(outcome(x, y -> of(y.close())));
        seen.add(outcome(x, y -> of(y.open())));
        look(x, seen);
        return seen;
    }

    private static void look(Node x, List<String> seen) {
        for (int what = 0; what <= 7; what++) {
            seen.add("state " + x.state(what));
        }
        int bytes = x.at(-1);
        for (int k = 0; k < bytes; k += bytes > 20 ? 10 : 1) {
            seen.add("at " + x.at(k));
        }
        for (int k = 0; k < x.state(6); k++) {
            for (int i = -1; i < x.record(k, -1); i++) {
                seen.add("record " + x.record(k, i));
            }
        }
        for (int id = 1; id <= 7; id += 2) {
            seen.add("context " + x.context(id));
        }
    }
}
