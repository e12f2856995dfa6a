import java.util.ArrayList;
import java.util.Arrays;
import java.util.List;
import java.util.Random;
import java.util.function.IntSupplier;

/** Many runs of calls on the program and on the model: all answers must be the same. */
public final class ModelTest {
    private static final int RUNS = 6000;
    private static final int CALLS = 512;
    private static final String[] NAMES = {"a", "b", "ab", "abc", "a b", "aab", "", "zz", "abcdefghijklmnop", "Q*?"};
    private static final String[] PATTERNS = {"", "*", "a*", "*b", "?", "??", "a?*", "*a*b*", "ab", "?b*", "***"};

    private final Random random;
    private final Node node;
    private final Model model;
    private final List<Integer> waiting = new ArrayList<>();
    private final int[] ids;
    private final int[] services;
    private final int[] syntaxes;
    /** Few wrong bytes, so that associations live long. */
    private final boolean tame;
    /** Nearly all calls bring bytes in, and hardly any takes them out. */
    private final boolean busy;
    private int calls = 0;

    private ModelTest(long seed) {
        random = new Random(seed);
        int room = random.nextInt(10);
        node = new Node(room);
        model = new Model(room);
        tame = random.nextInt(3) > 0;
        busy = tame && random.nextBoolean();
        int n = 1 + random.nextInt(4);
        ids = new int[n];
        services = new int[n];
        syntaxes = new int[n];
        for (int i = 0; i < n; i++) {
            ids[i] = 2 * (n - i) + 1;
            services[i] = random.nextInt(12) == 0 ? random.nextInt(6) : 1 + random.nextInt(3);
            syntaxes[i] = random.nextInt(8) == 0 ? random.nextInt(256) : 1 + random.nextInt(3);
        }
        if (tame && n > 1) {
            services[0] = 2;
            services[1] = 3;
        }
    }

    public static void main(String[] args) {
        for (int run = 0; run < RUNS; run++) {
            ModelTest test = new ModelTest(run);
            while (test.calls < CALLS) {
                test.step(run);
            }
        }
        System.out.println("faults " + Arrays.toString(Model.FAULTS) + ", statuses " + Arrays.toString(Model.STATUSES)
                + ", pieces that did not fit " + Model.notFitting);
        for (int fault = 1; fault <= 8; fault++) {
            Kit.due("fault " + fault + " was met", Model.FAULTS[fault] >= 100, true);
        }
        for (int status = 0; status <= 5; status++) {
            Kit.due("status " + status + " was met", Model.STATUSES[status] >= 100, true);
        }
        Kit.due("the output was full", Model.notFitting >= 100, true);
        Kit.end();
    }

    /** Nothing behind the last call: what it would answer is free. */
    private void same(int run, String call, IntSupplier program, IntSupplier due) {
        if (calls == CALLS) {
            return;
        }
        calls++;
        String got = outcome(program);
        String want = outcome(due);
        if (!got.equals(want)) {
            System.out.println("run " + run + ", call " + calls + ": " + call + " answered " + got + ", due is " + want);
            Kit.due("run " + run, 1, 0);
        } else {
            Kit.due("run " + run, 0, 0);
        }
    }

    private static String outcome(IntSupplier call) {
        try {
            return Integer.toString(call.getAsInt());
        } catch (RuntimeException e) {
            return e.getClass().getName();
        }
    }

    private void step(int run) {
        int what = random.nextInt(busy && random.nextInt(10) > 0 ? 55 : 100);
        if (what < 55) {
            feed(run);
        } else if (what < 63) {
            type(run);
        } else if (what < 68) {
            send(run);
        } else if (what < 72) {
            int syntax = random.nextInt(20) == 0 ? random.nextInt() : random.nextInt(2);
            same(run, "check " + syntax, () -> node.check(syntax), () -> model.check(syntax));
        } else if (what < 75) {
            int from = random.nextInt(20) == 0 ? random.nextInt(4) - 1 : random.nextInt(2);
            int to = random.nextInt(20) == 0 ? random.nextInt(4) - 1 : random.nextInt(2);
            same(run, "convert " + from + " " + to, () -> node.convert(from, to), () -> model.convert(from, to));
        } else if (what < 76) {
            int k = random.nextInt(124) - 2;
            same(run, "at " + k, () -> node.at(k), () -> model.at(k));
        } else if (what < 80) {
            openOrClose(run);
        } else if (what < 81) {
            same(run, "tick", node::tick, model::tick);
        } else if (what < 90) {
            take(run);
        } else if (what < 96) {
            states(run);
        } else if (what < 98) {
            int id = random.nextInt(14) - 1;
            same(run, "context " + id, () -> node.context(id), () -> model.context(id));
        } else {
            int k = random.nextInt(10) - 1;
            int i = random.nextInt(3) == 0 ? random.nextInt(202) - 2 : random.nextInt(12) - 2;
            same(run, "record " + k + " " + i, () -> node.record(k, i), () -> model.record(k, i));
        }
    }

    private void states(int run) {
        int what = random.nextInt(11) - 1;
        same(run, "state " + what, () -> node.state(what), () -> model.state(what));
    }

    private void take(int run) {
        int n = tame && random.nextInt(3) == 0 ? random.nextInt(24) : random.nextInt(4);
        for (int i = 0; i < n; i++) {
            same(run, "take", node::take, model::take);
        }
    }

    private void openOrClose(int run) {
        if (model.state(0) == 0) {
            waiting.clear();
            same(run, "open", () -> node.open() ? 1 : 0, () -> model.open() ? 1 : 0);
        } else if (random.nextInt(20) == 0) {
            same(run, "close", () -> node.close() ? 1 : 0, () -> model.close() ? 1 : 0);
        } else {
            same(run, "open", () -> node.open() ? 1 : 0, () -> model.open() ? 1 : 0);
        }
    }

    private void feed(int run) {
        if (model.state(0) == 0 && random.nextInt(4) > 0) {
            openOrClose(run);
        }
        if (random.nextInt(200) == 0) {
            int n = random.nextInt(12) - 2;
            if (n < 1 || n > 8) {
                same(run, "feed of " + n, () -> node.feed(1, n) ? 1 : 0, () -> model.feed(1, n) ? 1 : 0);
            }
            return;
        }
        if (waiting.isEmpty()) {
            nextPieces();
        }
        int n = Math.min(waiting.size(), random.nextInt(3) == 0 ? 1 + random.nextInt(8) : 8);
        long bytes = pack(waiting, n);
        same(run, "feed of " + n, () -> node.feed(bytes, n) ? 1 : 0, () -> model.feed(bytes, n) ? 1 : 0);
        states(run);
    }

    private long pack(List<Integer> row, int n) {
        long bytes = n < 8 ? random.nextLong() : 0;
        for (int i = 0; i < n; i++) {
            bytes = bytes << 8 | row.remove(0);
        }
        return bytes;
    }

    /** The draft is a set of its own, or what would be fed next. */
    private void type(int run) {
        List<Integer> row = new ArrayList<>();
        if (random.nextInt(3) == 0) {
            if (waiting.isEmpty()) {
                nextPieces();
            }
            row.addAll(waiting);
        } else {
            row.addAll(set(random.nextInt(2), 0, false));
            spoil(row, 2);
        }
        if (random.nextInt(4) > 0) {
            clear(run);
        }
        while (!row.isEmpty() && calls < CALLS) {
            int n = Math.min(8, row.size());
            long bytes = pack(row, n);
            same(run, "type of " + n, () -> node.type(bytes, n) ? 1 : 0, () -> model.type(bytes, n) ? 1 : 0);
        }
        int n = random.nextInt(40) == 0 ? random.nextInt(14) - 2 : 0;
        same(run, "type of " + n, () -> node.type(7, n) ? 1 : 0, () -> model.type(7, n) ? 1 : 0);
        same(run, "check 0", () -> node.check(0), () -> model.check(0));
        same(run, "check 1", () -> node.check(1), () -> model.check(1));
    }

    private void clear(int run) {
        same(run, "clear", () -> {
            node.clear();
            return 0;
        }, () -> {
            model.clear();
            return 0;
        });
    }

    private void send(int run) {
        if (!tame || random.nextInt(4) == 0 || waiting.isEmpty()) {
            same(run, "send", () -> node.send() ? 1 : 0, () -> model.send() ? 1 : 0);
            return;
        }
        clear(run);
        for (int sent = 0; sent < 120 && !waiting.isEmpty();) {
            int n = Math.min(Math.min(8, 120 - sent), waiting.size());
            long bytes = pack(waiting, n);
            same(run, "type of " + n, () -> node.type(bytes, n) ? 1 : 0, () -> model.type(bytes, n) ? 1 : 0);
            sent += n;
        }
        same(run, "send", () -> node.send() ? 1 : 0, () -> model.send() ? 1 : 0);
        states(run);
    }

    // ---- what is fed

    private void nextPieces() {
        int state = model.state(0);
        if (state < 2) {
            request();
        } else if (state == 2) {
            int odd = random.nextInt(tame ? 60 : 12);
            if (odd == 0) {
                waiting.addAll(piece(random.nextInt(10), noise(random.nextInt(6))));
            } else if (odd == 1 && random.nextBoolean()) {
                waiting.addAll(List.of(random.nextInt(9), 195 + random.nextInt(61)));
            } else {
                message();
            }
        } else {
            waiting.addAll(piece(random.nextInt(9), noise(random.nextInt(4))));
        }
        if (!tame) {
            spoil(waiting, 12);
        }
    }

    private void request() {
        List<Integer> body = new ArrayList<>(List.of(1, 1));
        for (int i = 0; i < ids.length; i++) {
            body.addAll(List.of(ids[i], services[i], syntaxes[i]));
        }
        spoil(body, tame ? 60 : 4);
        waiting.addAll(piece(random.nextInt(40) == 0 ? random.nextInt(9) : 1, body));
    }

    private void message() {
        int c = random.nextInt(ids.length);
        int id = ids[c];
        int kind = random.nextInt(10) == 0 ? random.nextInt(5) : services[c];
        boolean follows = random.nextInt(8) > 0;
        List<Integer> command = new ArrayList<>(List.of(1, 1, kind, 2));
        int size = 1 + random.nextInt(4);
        command.add(size);
        command.addAll(noise(size));
        command.addAll(List.of(3, 1, follows ? 1 : 0));
        if (random.nextInt(10) == 0) {
            command.addAll(List.of(80, 2, 65, 66));
        }
        spoil(command, tame ? 100 : 10);
        fragments(id, 1, command);
        if (follows) {
            int syntax = (syntaxes[c] & 1) == 1 ? 0 : 1;
            List<Integer> set = set(syntax, 0, kind == 3);
            spoil(set, 12);
            fragments(id, 0, set);
        }
    }

    private void fragments(int id, int flag, List<Integer> bytes) {
        List<Integer> left = new ArrayList<>(bytes);
        while (left.size() > 198 || random.nextInt(5) == 0) {
            int n = Math.min(left.size(), random.nextInt(120));
            List<Integer> body = new ArrayList<>(List.of(other(id), flag));
            body.addAll(left.subList(0, n));
            left = new ArrayList<>(left.subList(n, left.size()));
            waiting.addAll(piece(4, body));
        }
        List<Integer> body = new ArrayList<>(List.of(other(id), flag + 2));
        body.addAll(left);
        waiting.addAll(piece(4, body));
    }

    private int other(int id) {
        return random.nextInt(tame ? 300 : 40) == 0 ? random.nextInt(12) : id;
    }

    private static List<Integer> piece(int type, List<Integer> body) {
        List<Integer> all = new ArrayList<>(List.of(type, body.size()));
        all.addAll(body);
        return all;
    }

    private List<Integer> noise(int n) {
        List<Integer> all = new ArrayList<>();
        for (int i = 0; i < n; i++) {
            all.add(random.nextInt(3) == 0 ? random.nextInt(256) : random.nextInt(4));
        }
        return all;
    }

    /** Changes, drops or doubles a byte, once in so many times. */
    private void spoil(List<Integer> row, int seldom) {
        if (row.isEmpty() || random.nextInt(seldom) > 0) {
            return;
        }
        int k = random.nextInt(row.size());
        switch (random.nextInt(4)) {
            case 0 -> row.set(k, 250 + random.nextInt(6));
            case 1 -> row.set(k, Math.min(255, Math.max(0, row.get(k) + random.nextInt(5) - 2)));
            case 2 -> row.remove(k);
            default -> row.add(k, random.nextInt(256));
        }
    }

    // ---- sets, in bytes that need not be canonical

    /** Few different tags for the most part, so that patterns meet records that have them. */
    private List<Integer> set(int syntax, int around, boolean pattern) {
        List<Integer> all = new ArrayList<>();
        if (random.nextInt(8) == 0) {
            int tag = 0;
            for (int n = random.nextInt(around == 0 ? 14 : 4); n > 0; n--) {
                tag += random.nextInt(4) == 0 ? random.nextInt(60) : 1;
                element(all, tag, syntax, around, pattern);
            }
            return all;
        }
        int seldom = pattern ? 5 : around == 0 ? 2 : 4;
        for (int tag : new int[] {1, 5, 80, 90, 91, 160, 200}) {
            boolean isName = tag == 80 && around == 0 && !pattern;
            if (isName ? random.nextInt(12) > 0 : random.nextInt(seldom) == 0) {
                element(all, tag, syntax, around, pattern);
            }
        }
        return all;
    }

    private void element(List<Integer> all, int tag, int syntax, int around, boolean pattern) {
        all.add(Math.min(255, tag));
        if (syntax == 0) {
            all.add(tag < 80 ? 1 : tag < 160 ? 2 : 3);
        }
        if (tag < 80) {
            int n = random.nextInt(4) == 0 ? 4 : 1;
            int value = random.nextInt(9) == 0 ? random.nextInt() >> random.nextInt(32) : random.nextInt(3) - 1;
            all.add(n);
            for (int i = 0; i < n; i++) {
                all.add(value >> 8 * i & 255);
            }
        } else if (tag < 160) {
            String[] from = pattern && random.nextInt(3) > 0 ? PATTERNS : NAMES;
            String text = from[random.nextInt(from.length)];
            text = text.length() % 2 == 1 ? text + " " : text;
            all.add(text.length());
            text.chars().forEach(all::add);
        } else {
            sequence(all, syntax, around, pattern);
        }
    }

    private void sequence(List<Integer> all, int syntax, int around, boolean pattern) {
        List<Integer> inside = new ArrayList<>();
        int n = random.nextInt(30) == 0 ? 5 : random.nextInt(3);
        for (int i = 0; i < n; i++) {
            List<Integer> item = around < 2 || random.nextInt(6) == 0 && around < 4 ? set(syntax, around + 1, pattern)
                    : new ArrayList<>();
            boolean open = random.nextInt(3) == 0 || item.size() > 255;
            inside.add(254);
            inside.add(open ? 255 : item.size());
            inside.addAll(item);
            if (open) {
                inside.add(253);
            }
        }
        boolean open = random.nextInt(3) == 0 || inside.size() > 255;
        all.add(open ? 255 : inside.size());
        all.addAll(inside);
        if (open) {
            all.add(252);
        }
    }
}
