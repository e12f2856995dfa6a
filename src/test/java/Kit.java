import java.util.Arrays;
import java.util.function.IntSupplier;

/** What the tests share: counting wrong answers, and bytes of pieces, commands and sets. */
final class Kit {
    static final int EXPLICIT = 0;
    static final int IMPLICIT = 1;
    static final int CLOSED = 0;
    static final int WAITING = 1;
    static final int READY = 2;
    static final int ENDING = 3;

    private static int calls = 0;
    private static int wrong = 0;

    private Kit() {
    }

    static void due(String what, long got, long want) {
        calls++;
        if (got != want) {
            wrong++;
            System.out.println(what + " answered " + got + ", due is " + want);
        }
    }

    static void due(String what, boolean got, boolean want) {
        due(what, got ? 1 : 0, want ? 1 : 0);
    }

    static void due(String what, int[] got, int... want) {
        calls++;
        if (!Arrays.equals(got, want)) {
            wrong++;
            System.out.println(what + " answered " + Arrays.toString(got) + ", due is " + Arrays.toString(want));
        }
    }

    /** The class must be this very one: none of the exceptions here stands in for another. */
    static void dueThrows(String what, Class<? extends RuntimeException> kind, IntSupplier call) {
        calls++;
        try {
            int got = call.getAsInt();
            wrong++;
            System.out.println(what + " answered " + got + ", due is " + kind.getName());
        } catch (RuntimeException e) {
            if (e.getClass() != kind) {
                wrong++;
                System.out.println(what + " threw " + e + ", due is " + kind.getName());
            }
        }
    }

    static void end() {
        System.out.println(calls + " answers seen, " + wrong + " wrong");
        if (wrong != 0 || calls == 0) {
            System.exit(1);
        }
    }

    static int[] join(int[]... rows) {
        return Arrays.stream(rows).flatMapToInt(Arrays::stream).toArray();
    }

    static int[] bytes(int... values) {
        return values;
    }

    static int[] many(int n, int value) {
        int[] row = new int[n];
        Arrays.fill(row, value);
        return row;
    }

    static int[] piece(int type, int... body) {
        return join(bytes(type, body.length), body);
    }

    /** Contexts: 1 ECHO, 3 STORE, 5 FIND, 7 FIND; the last one implicit, the others explicit. */
    static int[] usualRequest() {
        return piece(1, 1, 1, 1, 1, 3, 3, 2, 1, 5, 3, 3, 7, 3, 2);
    }

    static int[] data(int id, int flags, int... fragment) {
        return piece(4, join(bytes(id, flags), fragment));
    }

    static int[] command(int id, int kind, int message, int follows) {
        return data(id, 3, 1, 1, kind, 2, 1, message, 3, 1, follows);
    }

    static int[] set(int id, int... bytes) {
        return data(id, 2, bytes);
    }

    /** The command of an answer; the message's number fits into one byte. */
    static int[] answer(int id, int kind, int message, int follows, int status) {
        return data(id, 3, 1, 1, kind + 16, 2, 1, message, 3, 1, follows, 4, 1, status);
    }

    static int[] number(int tag, int value) {
        return bytes(tag, 1, 1, value & 255);
    }

    static int[] text(int tag, String characters) {
        String even = characters.length() % 2 == 0 ? characters : characters + " ";
        return join(bytes(tag, 2, even.length()), even.chars().toArray());
    }

    static int[] sequence(int tag, int[]... items) {
        int[] all = new int[0];
        for (int[] item : items) {
            all = join(all, bytes(254, item.length), item);
        }
        return join(bytes(tag, 3, all.length), all);
    }

    private static long packed(int[] row, int from, int to) {
        long value = 0;
        for (int i = from; i < to; i++) {
            value = value << 8 | row[i];
        }
        return value;
    }

    static void type(RecordNode x, int... row) {
        for (int i = 0; i < row.length; i += 8) {
            int to = Math.min(row.length, i + 8);
            due("type", x.type(packed(row, i, to), to - i), true);
        }
    }

    static void retype(RecordNode x, int... row) {
        x.clear();
        type(x, row);
    }

    static int[] draft(RecordNode x) {
        int[] row = new int[x.at(-1)];
        for (int i = 0; i < row.length; i++) {
            row[i] = x.at(i);
        }
        return row;
    }

    /** Stops when the line has closed: what comes behind would be answered false. */
    static void feed(RecordNode x, int... row) {
        for (int i = 0; i < row.length && x.state(0) != CLOSED; i += 8) {
            int to = Math.min(row.length, i + 8);
            due("feed", x.feed(packed(row, i, to), to - i), true);
        }
    }

    static int[] takeAll(RecordNode x) {
        int[] row = new int[x.state(2)];
        for (int i = 0; i < row.length; i++) {
            row[i] = x.take();
        }
        return row;
    }

    static int[] record(RecordNode x, int k) {
        int[] row = new int[x.record(k, -1)];
        for (int i = 0; i < row.length; i++) {
            row[i] = x.record(k, i);
        }
        return row;
    }

    static RecordNode waiting(int room) {
        RecordNode x = new RecordNode(room);
        due("open", x.open(), true);
        return x;
    }

    static RecordNode ready(int room) {
        RecordNode x = waiting(room);
        feed(x, usualRequest());
        takeAll(x);
        due("state of the association", x.state(0), READY);
        return x;
    }

    static void store(RecordNode x, int... bytes) {
        feed(x, join(command(3, 2, 9, 1), set(3, bytes)));
    }

    static void dueStore(String what, RecordNode x, int status, int... bytes) {
        store(x, bytes);
        due(what, takeAll(x), answer(3, 2, 9, 0, status));
    }
}
