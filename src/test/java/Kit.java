import java.util.Arrays;
import java.util.function.IntSupplier;

/** What the tests share: counting wrong answers, and bytes of pieces, commands and sets. */
final class Kit {
    static final int EXPLICIT = 0;
    static final int IMPLICIT = 1;
    static final int CLOSED = 0;
    static final int WAITING = 1;
    static final int READY = 2;
    static final int ENDING = 3;

    private static int calls = 0;
    private static int wrong = 0;

    private Kit() {
    }

    static void due(String what, long got, long want) {
        calls++;
        if (got != want) {
            wrong++;
            System.out.println(what + " answered " + got + ", due is " + want);
        }
    }

    static void due(String what, boolean got, boolean want) {
        due(what, got ? 1 : 0, want ? 1 : 0);
    }

    static void due(String what, int[] got, int... want) {
        calls++;
        if (!Arrays.equals(got, want)) {
            wrong++;
            System.out.println(what + " answered " + Arrays.toString(got) + ", due is " + Arrays.toString(want));
        }
    }

    /** The class must be this very one: none of the exceptions here stands in for another. */
    static void dueThrows(String what, Class<? extends RuntimeException> kind, IntSupplier call) {
        calls++;
        try {
            int got = call.getAsInt();
            wrong++;
            System.out.println(what + " answered " + got + ", due is " + kind.getName());
        } catch (RuntimeException e) {
            if (e.getClass() != kind) {
                wrong++;
                System.out.println(what + " threw " + e + ", due is " + kind.getName());
            }
        }
    }

    static void end() {
        System.out.println(calls + " answers seen, " + wrong + " wrong");
        if (wrong != 0 || calls == 0) {
            System.exit(1);
        }
    }

    static int[] join(int[]... rows) {
        return Arrays.stream(rows).flatMapToInt(Arrays::stream).toArray();
    }

    static int[] bytes(int... values) {
        return values;
    }

    static int[] many(int n, int value) {
        int[] row = new int[n];
        Arrays.fill(row, value);
        return row;
    }

    static int[] piece(int type, int... body) {
        return join(bytes(type, body.length), body);
    }

    /** Contexts: 1 ECHO, 3 STORE, 5 FIND, 7 FIND; the last one implicit, the others explicit. */
    static int[] usualRequest() {
        return piece(1, 1, 1, 1, 1, 3, 3, 2, 1, 5, 3, 3, 7, 3, 2);
    }

    static int[] data(int id, int flags, int... fragment) {
        return piece(4, join(bytes(id, flags), fragment));
    }

    static int[] command(int id, int kind, int message, int follows) {
        return data(id, 3, 1, 1, kind, 2, 1, message, 3, 1, follows);
    }

    static int[] set(int id, int... bytes) {
        return data(id, 2, bytes);
    }

    /** The command of an answer; the message's number fits into one byte. */
    static int[] answer(int id, int kind, int message, int follows, int status) {
        return data(id, 3, 1, 1, kind + 16, 2, 1, message, 3, 1, follows, 4, 1, status);
    }

    static int[] number(int tag, int value) {
        return bytes(tag, 1, 1, value & 255);
    }

    static int[] text(int tag, String characters) {
        String even = characters.length() % 2 == 0 ? characters : characters + " ";
        return join(bytes(tag, 2, even.length()), even.chars().toArray());
    }

    static int[] sequence(int tag, int[]... items) {
        int[] all = new int[0];
        for (int[] item : items) {
            all = join(all, bytes(254, item.length), item);
        }
        return join(bytes(tag, 3, all.length), all);
    }

    private static long packed(int[] row, int from, int to) {
        long value = 0;
        for (int i = from; i < to; i++) {
            value = value << 8 | row[i];
        }
        return value;
    }

    static void type(Node x, int... row) {
        for (int i = 0; i < row.length; i += 8) {
            int to = Math.min(row.length, i + 8);
            due("type", x.type(packed(row, i, to), to - i), true);
        }
    }

    static void retype(Node x, int... row) {
        x.clear();
        type(x, row);
    }

    static int[] draft(Node x) {
        int[] row = new int[x.at(-1)];
        for (int i = 0; i < row.length; i++) {
            row[i] = x.at(i);
        }
        return row;
    }

    /** The line may close by these bytes: then false is due for the parts behind. */
    static void feed(Node x, int... row) {
        boolean open = true;
        for (int i = 0; i < row.length && open; i += 8) {
            int to = Math.min(row.length, i + 8);
            open = x.feed(packed(row, i, to), to - i);
            due("feed of the first part", open || i > 0, true);
        }
    }

    static int[] takeAll(Node x) {
        int[] row = new int[x.state(2)];
        for (int i = 0; i < row.length; i++) {
            row[i] = x.take();
        }
        return row;
    }

    static int[] record(Node x, int k) {
        int[] row = new int[x.record(k, -1)];
        for (int i = 0; i < row.length; i++) {
            row[i] = x.record(k, i);
        }
        return row;
    }

    static Node waiting(int room) {
        Node x = new Node(room);
        due("open", x.open(), true);
        return x;
    }

    static Node ready(int room) {
        Node x = waiting(room);
        feed(x, usualRequest());
        takeAll(x);
        due("state of the association", x.state(0), READY);
        return x;
    }

    static void store(Node x, int... bytes) {
        feed(x, join(command(3, 2, 9, 1), set(3, bytes)));
    }

    static void dueStore(String what, Node x, int status, int... bytes) {
        store(x, bytes);
        due(what, takeAll(x), answer(3, 2, 9, 0, status));
    }

    /** An ECHO whose answer has 15 bytes and those of its message's number, 1 to 4. */
    static int[] echo(int numberBytes) {
        int[] number = many(numberBytes, 0);
        number[numberBytes - 1] = 1;
        return data(1, 3, join(bytes(1, 1, 1, 2, numberBytes), number, bytes(3, 1, 0)));
    }

    static int[] echoAnswer(int numberBytes) {
        int[] number = many(numberBytes, 0);
        number[numberBytes - 1] = 1;
        return data(1, 3, join(bytes(1, 1, 17, 2, numberBytes), number, bytes(3, 1, 0, 4, 1, 0)));
    }

    /** Brings the output of a READY node to so many bytes by answers of 16 to 19 bytes each. */
    static void fill(Node x, int target) {
        int left = target - x.state(2);
        for (int n = left / 16; n > 0; n--) {
            int numberBytes = 1 + Math.min(3, left - 16 * n);
            feed(x, echo(numberBytes));
            left -= 15 + numberBytes;
        }
        due("bytes of the output", x.state(2), target);
    }
}
