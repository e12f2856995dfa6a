import java.util.ArrayDeque;
import java.util.ArrayList;
import java.util.Arrays;
import java.util.LinkedHashMap;
import java.util.List;
import java.util.Map;
import java.util.NoSuchElementException;
import java.util.TreeMap;

/**
 * The document a second time, by other means than the program's: sets as maps, reading by
 * recursion with the fault as an exception, patterns as regular expressions.
 */
final class Model {
    /** A set: an element is an Integer, a String or a List of sets. */
    static final class Elements extends TreeMap<Integer, Object> {
        private static final long serialVersionUID = 1L;
    }

    private static final class Fault extends RuntimeException {
        private static final long serialVersionUID = 1L;
        final int code;

        Fault(int fault, int place) {
            code = fault + 16 * place;
        }
    }

    private static final class NoBytes extends RuntimeException {
        private static final long serialVersionUID = 1L;
    }

    private static final class LineClosed extends RuntimeException {
        private static final long serialVersionUID = 1L;
    }

    private final int room;
    private List<Integer> draft = new ArrayList<>();
    private final ArrayDeque<Integer> output = new ArrayDeque<>();
    private List<Integer> input = new ArrayList<>();
    private final List<Elements> records = new ArrayList<>();
    private int state = 0;
    private int timer = 0;
    private int answered = 0;
    /** ID to service and result. */
    private final Map<Integer, int[]> contexts = new LinkedHashMap<>();
    private List<Integer> command = new ArrayList<>();
    private List<Integer> set = new ArrayList<>();
    private boolean setWanted = false;
    private int current = -1;
    /** What the runs came upon: faults of sets, statuses of answers, pieces that did not fit. */
    static final int[] FAULTS = new int[9];
    static final int[] STATUSES = new int[6];
    static int notFitting = 0;

    Model(int room) {
        this.room = room < 1 ? 1 : room > 8 ? 8 : room;
    }

    // ---- reading

    private static final class Cursor {
        final List<Integer> bytes;
        final boolean explicit;
        int at = 0;

        Cursor(List<Integer> bytes, boolean explicit) {
            this.bytes = bytes;
            this.explicit = explicit;
        }

        int peek(int end) {
            if (at >= end) {
                throw new Fault(1, end);
            }
            return bytes.get(at);
        }

        int length(int end, int kind) {
            int n = peek(end);
            boolean said = kind == 1 ? 1 <= n && n <= 4 : kind == 2 ? n <= 16 && n % 2 == 0 : n <= 240 || n == 255;
            if (!said || n != 255 && at + 1 + n > end) {
                throw new Fault(4, at);
            }
            at++;
            return n;
        }

        Elements set(int end, boolean open, int around) {
            Elements all = new Elements();
            int before = 0;
            while (open || at < end) {
                int tag = peek(end);
                if (open && tag == 253) {
                    at++;
                    return all;
                }
                if (tag < 1 || tag > 200 || tag <= before) {
                    throw new Fault(2, at);
                }
                if (all.size() == 10) {
                    throw new Fault(7, at);
                }
                if (tag >= 160 && around == 2) {
                    throw new Fault(8, at);
                }
                at++;
                int kind = tag < 80 ? 1 : tag < 160 ? 2 : 3;
                if (explicit) {
                    if (peek(end) != kind) {
                        throw new Fault(3, at);
                    }
                    at++;
                }
                int n = length(end, kind);
                all.put(tag, kind == 1 ? number(n) : kind == 2 ? text(n)
                        : items(n == 255 ? end : at + n, n == 255, around + 1));
                before = tag;
            }
            return all;
        }

        Integer number(int n) {
            long value = 0;
            for (int i = n - 1; i >= 0; i--) {
                value = value * 256 + bytes.get(at + i);
            }
            if (bytes.get(at + n - 1) >= 128) {
                value -= 1L << 8 * n;
            }
            at += n;
            return (int) value;
        }

        String text(int n) {
            StringBuilder all = new StringBuilder();
            for (int i = 0; i < n; i++) {
                all.append((char) bytes.get(at + i).intValue());
            }
            String value = all.toString();
            if (value.endsWith(" ")) {
                value = value.substring(0, n - 1);
            }
            if (!value.matches("([ -~]*[!-~])?")) {
                throw new Fault(5, at);
            }
            at += n;
            return value;
        }

        List<Elements> items(int end, boolean open, int around) {
            List<Elements> all = new ArrayList<>();
            while (open || at < end) {
                int value = peek(end);
                if (open && value == 252) {
                    at++;
                    return all;
                }
                if (value != 254) {
                    throw new Fault(6, at);
                }
                if (all.size() == 4) {
                    throw new Fault(7, at);
                }
                at++;
                int n = length(end, 4);
                all.add(set(n == 255 ? end : at + n, n == 255, around));
            }
            return all;
        }
    }

    private static Elements read(List<Integer> bytes, int syntax) {
        return new Cursor(bytes, syntax == 0).set(bytes.size(), false, 0);
    }

    // ---- writing

    private static List<Integer> write(Elements set, int syntax) {
        List<Integer> all = new ArrayList<>();
        for (Map.Entry<Integer, Object> one : set.entrySet()) {
            List<Integer> value = new ArrayList<>();
            int kind = 3;
            if (one.getValue() instanceof Integer number) {
                kind = 1;
                int left = number;
                do {
                    value.add(left & 255);
                    left >>= 8;
                } while (left != (value.get(value.size() - 1) >= 128 ? -1 : 0));
            } else if (one.getValue() instanceof String text) {
                kind = 2;
                text.chars().forEach(value::add);
                if (text.length() % 2 == 1) {
                    value.add(32);
                }
            } else {
                for (Elements item : sequence(one.getValue())) {
                    List<Integer> inside = write(item, syntax);
                    value.add(254);
                    value.add(inside.size());
                    value.addAll(inside);
                    if (inside.size() > 240) {
                        throw new NoBytes();
                    }
                }
            }
            if (value.size() > 240) {
                throw new NoBytes();
            }
            all.add(one.getKey());
            if (syntax == 0) {
                all.add(kind);
            }
            all.add(value.size());
            all.addAll(value);
        }
        return all;
    }

    @SuppressWarnings("unchecked")
    private static List<Elements> sequence(Object value) {
        return (List<Elements>) value;
    }

    // ---- matching

    private static boolean matches(Elements record, Elements wanted) {
        for (Map.Entry<Integer, Object> one : wanted.entrySet()) {
            Object kept = record.get(one.getKey());
            if (kept == null || !fits(kept, one.getValue())) {
                return false;
            }
        }
        return true;
    }

    private static boolean fits(Object kept, Object wanted) {
        if (wanted instanceof Integer) {
            return wanted.equals(kept);
        }
        if (wanted instanceof String text) {
            StringBuilder pattern = new StringBuilder();
            for (char c : text.toCharArray()) {
                pattern.append(c == '*' ? ".*" : c == '?' ? "." : "\\x" + String.format("%02x", (int) c));
            }
            return text.isEmpty() || ((String) kept).matches(pattern.toString());
        }
        List<Elements> items = sequence(wanted);
        return items.isEmpty() || sequence(kept).stream().anyMatch(item -> matches(item, items.get(0)));
    }

    // ---- the draft

    private static List<Integer> unpack(long bytes, int n) {
        List<Integer> all = new ArrayList<>();
        for (int i = 0; i < n; i++) {
            all.add(0, (int) (bytes & 255));
            bytes >>= 8;
        }
        return all;
    }

    boolean type(long bytes, int n) {
        if (n < 1 || n > 8 || draft.size() + n > 120) {
            return false;
        }
        draft.addAll(unpack(bytes, n));
        return true;
    }

    void clear() {
        draft = new ArrayList<>();
    }

    int check(int syntax) {
        if (syntax != 0 && syntax != 1) {
            throw new IllegalArgumentException();
        }
        try {
            read(draft, syntax);
            return 0;
        } catch (Fault fault) {
            FAULTS[fault.code % 16]++;
            return fault.code;
        }
    }

    int convert(int from, int to) {
        if (from < 0 || from > 1 || to < 0 || to > 1) {
            throw new IllegalArgumentException();
        }
        try {
            List<Integer> bytes = write(read(draft, from), to);
            if (bytes.size() > 120) {
                throw new NoBytes();
            }
            draft = bytes;
            return bytes.size();
        } catch (Fault | NoBytes e) {
            throw new IllegalStateException();
        }
    }

    private static int byteAt(List<Integer> bytes, int k) {
        if (k < -1 || k >= bytes.size()) {
            throw new NoSuchElementException();
        }
        return k == -1 ? bytes.size() : bytes.get(k);
    }

    int at(int k) {
        return byteAt(draft, k);
    }

    // ---- the line

    boolean open() {
        if (state != 0) {
            return false;
        }
        go(1);
        return true;
    }

    boolean close() {
        if (state == 0) {
            return false;
        }
        go(0);
        return true;
    }

    private void go(int next) {
        state = next;
        timer = next == 1 || next == 3 ? 5 : 0;
        if (next == 0) {
            input = new ArrayList<>();
        }
        if (next != 2) {
            contexts.clear();
        }
        command = new ArrayList<>();
        set = new ArrayList<>();
        setWanted = false;
        current = -1;
    }

    boolean feed(long bytes, int n) {
        if (n < 1 || n > 8) {
            throw new IllegalArgumentException();
        }
        return comeIn(unpack(bytes, n));
    }

    boolean send() {
        return comeIn(draft);
    }

    private boolean comeIn(List<Integer> bytes) {
        if (state == 0) {
            return false;
        }
        for (int value : bytes) {
            if (state == 0) {
                break;
            }
            input.add(value);
            if (input.size() >= 2 && (input.get(1) > 200 || input.size() == 2 + input.get(1))) {
                List<Integer> piece = input;
                input = new ArrayList<>();
                try {
                    look(piece);
                } catch (LineClosed e) {
                    go(0);
                }
            }
        }
        return true;
    }

    private void put(int type, List<Integer> body) {
        if (output.size() + 2 + body.size() > 900) {
            notFitting++;
            throw new LineClosed();
        }
        output.add(type);
        output.add(body.size());
        output.addAll(body);
    }

    private void breakOff() {
        put(7, List.of());
        go(3);
    }

    private void look(List<Integer> piece) {
        int type = piece.get(0);
        if (piece.get(1) > 200) {
            if (state == 3) {
                throw new LineClosed();
            }
            breakOff();
        } else if (type == 7) {
            throw new LineClosed();
        } else if (state == 1) {
            if (type != 1 || !readContexts(piece.subList(2, piece.size()))) {
                breakOff();
            } else if (piece.get(2) % 2 == 0 || piece.get(3) != 1) {
                put(3, List.of(piece.get(2) % 2 == 0 ? 1 : 2));
                go(3);
            } else {
                List<Integer> body = new ArrayList<>();
                contexts.forEach((id, context) -> body.addAll(List.of(id, context[1])));
                put(2, body);
                go(2);
            }
        } else if (state == 2) {
            if (type == 5) {
                put(6, List.of());
                go(3);
            } else if (type != 4 || !data(piece.subList(2, piece.size()))) {
                breakOff();
            }
        }
    }

    private boolean readContexts(List<Integer> body) {
        contexts.clear();
        if (!List.of(5, 8, 11, 14).contains(body.size())) {
            return false;
        }
        for (int i = 2; i < body.size(); i += 3) {
            int service = body.get(i + 1);
            int syntaxes = body.get(i + 2);
            int result = service < 1 || service > 3 ? 2 : syntaxes % 2 == 1 ? 0 : syntaxes / 2 % 2 == 1 ? 1 : 3;
            if (body.get(i) % 2 == 0 || contexts.put(body.get(i), new int[] {service, result}) != null) {
                return false;
            }
        }
        return true;
    }

    private boolean data(List<Integer> body) {
        if (body.size() < 2 || body.get(1) > 3 || !contexts.containsKey(body.get(0))
                || contexts.get(body.get(0))[1] > 1) {
            return false;
        }
        boolean ofSet = body.get(1) % 2 == 0;
        List<Integer> part = setWanted ? set : command;
        if (ofSet != setWanted || current != -1 && current != body.get(0)) {
            return false;
        }
        current = body.get(0);
        part.addAll(body.subList(2, body.size()));
        if (part.size() > 200) {
            return false;
        }
        if (body.get(1) < 2) {
            return true;
        }
        if (!setWanted) {
            if (!isCommand()) {
                return false;
            }
            setWanted = read(command, 1).get(3).equals(1);
            if (setWanted) {
                return true;
            }
            answer(false);
        } else {
            answer(true);
        }
        return true;
    }

    private boolean isCommand() {
        try {
            Elements all = read(command, 1);
            return Arrays.<Object>asList(1, 2, 3).contains(all.get(1)) && all.containsKey(2)
                    && Arrays.<Object>asList(0, 1).contains(all.get(3));
        } catch (Fault fault) {
            return false;
        }
    }

    private void answer(boolean withSet) {
        answered++;
        Elements asked = read(command, 1);
        int kind = (Integer) asked.get(1);
        int id = current;
        int[] context = contexts.get(id);
        Elements given = null;
        try {
            given = withSet ? read(set, context[1]) : null;
        } catch (Fault fault) {
            given = null;
        }
        Object number = asked.get(2);
        command = new ArrayList<>();
        set = new ArrayList<>();
        setWanted = false;
        current = -1;
        if (kind != context[0]) {
            reply(id, kind, number, 2, null);
        } else if (kind == 1) {
            reply(id, kind, number, 0, null);
        } else if (given == null) {
            reply(id, kind, number, 3, null);
        } else if (kind == 2) {
            reply(id, kind, number, store(given), null);
        } else {
            for (Elements record : records) {
                if (matches(record, given)) {
                    Elements chosen = new Elements();
                    chosen.putAll(record);
                    chosen.keySet().retainAll(given.keySet());
                    reply(id, kind, number, 1, write(chosen, context[1]));
                }
            }
            reply(id, kind, number, 0, null);
        }
    }

    private void reply(int id, int kind, Object number, int status, List<Integer> following) {
        STATUSES[status]++;
        Elements said = new Elements();
        said.put(1, kind + 16);
        said.put(2, number);
        said.put(3, following == null ? 0 : 1);
        said.put(4, status);
        List<Integer> body = new ArrayList<>(List.of(id, 3));
        body.addAll(write(said, 1));
        put(4, body);
        if (following != null) {
            body = new ArrayList<>(List.of(id, 2));
            body.addAll(following);
            put(4, body);
        }
    }

    private int store(Elements given) {
        try {
            if (write(given, 0).size() > 198) {
                return 3;
            }
        } catch (NoBytes e) {
            return 3;
        }
        Object name = given.get(80);
        if (name == null || name.equals("")) {
            return 4;
        }
        for (int k = 0; k < records.size(); k++) {
            if (records.get(k).get(80).equals(name)) {
                records.set(k, given);
                return 0;
            }
        }
        if (records.size() == room) {
            return 5;
        }
        records.add(given);
        return 0;
    }

    int tick() {
        if (state == 1 || state == 3) {
            timer--;
            if (timer == 0) {
                go(0);
            }
        }
        return timer;
    }

    int take() {
        return output.remove();
    }

    int state(int what) {
        int[] all = {state, timer, output.size(), input.size(), state == 2 && setWanted ? 1 : 0,
            state != 2 ? 0 : setWanted ? set.size() : command.size(), records.size(), answered};
        return what >= 0 && what < all.length ? all[what] : -1;
    }

    int context(int id) {
        return state == 2 && contexts.containsKey(id) ? contexts.get(id)[1] : -1;
    }

    int record(int k, int i) {
        if (k < 0 || k >= records.size()) {
            throw new NoSuchElementException();
        }
        return byteAt(write(records.get(k), 0), i);
    }
}
