import java.util.NoSuchElementException;

/**
 * A node that keeps records: it reads trees of elements in two syntaxes, writes them in one
 * canonical way, and answers the messages of a caller at the other end of a line.
 *
 * <p>Every row that a call needs is made in a constructor, so that calls themselves make nothing.
 */
public final class RecordNode {
    public static final int NONE = -1;

    private static final int EXPLICIT = 0;
    private static final int IMPLICIT = 1;

    private static final int NUMBER = 1;
    private static final int TEXT = 2;
    private static final int SEQUENCE = 3;
    private static final int ITEM_KIND = 4;

    private static final int LOWEST_TEXT = 80;
    private static final int LOWEST_SEQUENCE = 160;
    private static final int HIGHEST_TAG = 200;
    private static final int NAME_TAG = 80;

    private static final int OPEN = 255;
    private static final int ITEM = 254;
    private static final int ITEM_END = 253;
    private static final int SEQUENCE_END = 252;

    private static final int MOST_ELEMENTS = 10;
    private static final int MOST_ITEMS = 4;
    private static final int MOST_CHARACTERS = 16;
    private static final int LONGEST_VALUE = 240;
    private static final int BLANK = 32;
    private static final int LAST_CODE = 126;

    private static final int END_FAULT = 1;
    private static final int TAG_FAULT = 2;
    private static final int KIND_FAULT = 3;
    private static final int LENGTH_FAULT = 4;
    private static final int VALUE_FAULT = 5;
    private static final int ITEM_FAULT = 6;
    private static final int MANY_FAULT = 7;
    private static final int DEEP_FAULT = 8;

    private static final int MOST_AT_ONCE = 8;
    private static final int MOST_DRAFT = 120;
    private static final int MOST_RECORD = 198;
    private static final int MOST_PART = 200;
    /** No element and no item has fewer than two bytes; one node more is the whole set. */
    private static final int MOST_NODES = MOST_PART / 2 + 1;
    /** Explicit bytes of what was read as implicit ones: one more for each element. */
    private static final int MOST_CANONICAL = MOST_PART + MOST_NODES;

    private static final int LONGEST_PIECE = 200;
    private static final int PIECE_HEAD = 2;
    private static final int DATA_HEAD = 4;
    private static final int OUTPUT_ROOM = 900;

    private static final int CLOSED = 0;
    private static final int WAITING = 1;
    private static final int READY = 2;
    private static final int ENDING = 3;
    private static final int TIMER_START = 5;

    private static final int REQUEST_PIECE = 1;
    private static final int ACCEPTED_PIECE = 2;
    private static final int REFUSED_PIECE = 3;
    private static final int DATA_PIECE = 4;
    private static final int RELEASE_PIECE = 5;
    private static final int RELEASED_PIECE = 6;
    private static final int ABORT_PIECE = 7;

    private static final int APPLICATION = 1;
    private static final int BAD_VERSION = 1;
    private static final int BAD_APPLICATION = 2;

    private static final int COMMAND_FLAG = 1;
    private static final int LAST_FLAG = 2;

    private static final int ECHO = 1;
    private static final int STORE = 2;
    private static final int FIND = 3;
    private static final int ANSWER_KIND = 16;

    private static final int DONE = 0;
    private static final int FOUND = 1;
    private static final int WRONG_KIND = 2;
    private static final int BAD_SET = 3;
    private static final int NAMELESS = 4;
    private static final int FULL = 5;

    private final Bytes draft;
    private final Bytes canonical;
    private final Bytes name;
    private final Bytes input;
    private final Bytes part;
    private final Bytes body;
    private final Output output;
    private final Contexts contexts;
    private final Message message;
    private final Records records;
    private final Reader reader;
    private final Reader recordReader;
    private final Matcher matcher;
    private int phase;
    private int timer;
    private int answered;

    public RecordNode(int room) {
        draft = new Bytes(MOST_DRAFT);
        canonical = new Bytes(MOST_CANONICAL);
        name = new Bytes(MOST_CHARACTERS);
        input = new Bytes(PIECE_HEAD + LONGEST_PIECE);
        part = new Bytes(MOST_PART);
        body = new Bytes(LONGEST_PIECE);
        output = new Output();
        contexts = new Contexts();
        message = new Message();
        records = new Records(room);
        reader = new Reader();
        recordReader = new Reader();
        matcher = new Matcher();
        phase = CLOSED;
        timer = 0;
        answered = 0;
    }

    public boolean type(long bytes, int n) {
        if (!isCount(n) || !draft.hasRoom(n)) {
            return false;
        }
        for (int i = n - 1; i >= 0; i--) {
            draft.append(byteOf(bytes, i));
        }
        return true;
    }

    public void clear() {
        draft.reset();
    }

    public int check(int syntax) throws IllegalArgumentException {
        if (!isSyntax(syntax)) {
            throw new IllegalArgumentException();
        }
        return reader.read(draft, syntax);
    }

    public int convert(int from, int to) throws IllegalArgumentException, IllegalStateException {
        if (!isSyntax(from) || !isSyntax(to)) {
            throw new IllegalArgumentException();
        }
        boolean isWritten = reader.read(draft, from) == 0 && reader.tree().writeAll(to, canonical);
        if (!isWritten || canonical.count() > MOST_DRAFT) {
            throw new IllegalStateException();
        }
        draft.become(canonical);
        return draft.count();
    }

    public int at(int k) throws NoSuchElementException {
        if (k < NONE || k >= draft.count()) {
            throw new NoSuchElementException();
        }
        return k == NONE ? draft.count() : draft.get(k);
    }

    public boolean open() {
        if (phase != CLOSED) {
            return false;
        }
        begin(WAITING);
        return true;
    }

    public boolean close() {
        if (phase == CLOSED) {
            return false;
        }
        shut();
        return true;
    }

    public boolean feed(long bytes, int n) throws IllegalArgumentException {
        if (!isCount(n)) {
            throw new IllegalArgumentException();
        }
        if (phase == CLOSED) {
            return false;
        }
        for (int i = n - 1; i >= 0; i--) {
            byteIn(byteOf(bytes, i));
        }
        return true;
    }

    public boolean send() {
        if (phase == CLOSED) {
            return false;
        }
        for (int i = 0; i < draft.count(); i++) {
            byteIn(draft.get(i));
        }
        return true;
    }

    public int tick() {
        if (timer > 0) {
            timer--;
            if (timer == 0) {
                shut();
            }
        }
        return timer;
    }

    public int take() throws NoSuchElementException {
        if (output.count() == 0) {
            throw new NoSuchElementException();
        }
        return output.pull();
    }

    public int state(int what) {
        switch (what) {
            case 0:
                return phase;
            case 1:
                return timer;
            case 2:
                return output.count();
            case 3:
                return input.count();
            case 4:
                return phase == READY && message.wantsSet() ? 1 : 0;
            case 5:
                return phase == READY ? part.count() : 0;
            case 6:
                return records.count();
            case 7:
                return answered;
            default:
                return NONE;
        }
    }

    public int context(int id) {
        return phase == READY ? contexts.result(contexts.find(id)) : NONE;
    }

    public int record(int k, int i) throws NoSuchElementException {
        if (k < 0 || k >= records.count() || i < NONE || i >= records.bytes(k).count()) {
            throw new NoSuchElementException();
        }
        return i == NONE ? records.bytes(k).count() : records.bytes(k).get(i);
    }

    private static boolean isCount(int n) {
        return n >= 1 && n <= MOST_AT_ONCE;
    }

    private static boolean isSyntax(int syntax) {
        return syntax == EXPLICIT || syntax == IMPLICIT;
    }

    private static int byteOf(long bytes, int i) {
        return (int) (bytes >>> (8 * i)) & 255;
    }

    private static int kindOf(int tag) {
        if (tag < LOWEST_TEXT) {
            return NUMBER;
        }
        if (tag < LOWEST_SEQUENCE) {
            return TEXT;
        }
        return tag <= HIGHEST_TAG ? SEQUENCE : ITEM_KIND;
    }

    private void begin(int newPhase) {
        phase = newPhase;
        timer = newPhase == WAITING || newPhase == ENDING ? TIMER_START : 0;
    }

    private void shut() {
        begin(CLOSED);
        input.reset();
        part.reset();
        message.reset();
    }

    private void breakOff() {
        body.reset();
        if (put(ABORT_PIECE)) {
            begin(ENDING);
        }
    }

    /** Writes a piece with the bytes of the body; the line does not outlive one that does not fit. */
    private boolean put(int type) {
        if (!output.hasRoom(PIECE_HEAD + body.count())) {
            shut();
            return false;
        }
        output.push(type);
        output.push(body.count());
        for (int i = 0; i < body.count(); i++) {
            output.push(body.get(i));
        }
        return true;
    }

    /**
     * The steps that a piece sets off are called from here one behind the other, not by one
     * another: so the calls stay few deep.
     */
    private void byteIn(int value) {
        if (phase == CLOSED) {
            return;
        }
        input.append(value);
        if (input.count() < PIECE_HEAD) {
            return;
        }
        if (input.get(1) > LONGEST_PIECE) {
            input.reset();
            refuseLength();
        } else if (input.count() == PIECE_HEAD + input.get(1)) {
            lookAtPiece();
            input.reset();
            if (message.isCommandThere()) {
                lookAtCommand();
            }
            if (message.isWhole()) {
                answer();
            }
        }
    }

    private void refuseLength() {
        if (phase == ENDING) {
            shut();
        } else {
            breakOff();
        }
    }

    private void lookAtPiece() {
        int type = input.get(0);
        if (type == ABORT_PIECE) {
            shut();
        } else if (phase == WAITING) {
            lookAtRequest(type);
        } else if (phase == READY && type == RELEASE_PIECE) {
            release();
        } else if (phase == READY && (type != DATA_PIECE || !takeFragment())) {
            breakOff();
        }
    }

    private void lookAtRequest(int type) {
        if (type != REQUEST_PIECE || !contexts.readRequest(input)) {
            breakOff();
        } else if (input.get(2) % 2 == 0) {
            refuse(BAD_VERSION);
        } else if (input.get(3) != APPLICATION) {
            refuse(BAD_APPLICATION);
        } else {
            accept();
        }
    }

    private void refuse(int reason) {
        body.reset();
        body.append(reason);
        if (put(REFUSED_PIECE)) {
            begin(ENDING);
        }
    }

    private void accept() {
        body.reset();
        for (int i = 0; i < contexts.count(); i++) {
            body.append(contexts.id(i));
            body.append(contexts.result(i));
        }
        if (put(ACCEPTED_PIECE)) {
            begin(READY);
        }
    }

    private void release() {
        body.reset();
        if (put(RELEASED_PIECE)) {
            begin(ENDING);
        }
    }

    /** Adds the fragment of the piece to the message; false when it does not belong there. */
    private boolean takeFragment() {
        if (input.count() < DATA_HEAD) {
            return false;
        }
        int context = contexts.find(input.get(2));
        int flags = input.get(3);
        if (!contexts.isUsable(context) || flags > (COMMAND_FLAG | LAST_FLAG)) {
            return false;
        }
        boolean isSet = (flags & COMMAND_FLAG) == 0;
        if (!message.wants(isSet, context) || !part.hasRoom(input.count() - DATA_HEAD)) {
            return false;
        }
        for (int i = DATA_HEAD; i < input.count(); i++) {
            part.append(input.get(i));
        }
        message.addFragment(context, (flags & LAST_FLAG) != 0);
        return true;
    }

    private void lookAtCommand() {
        boolean fits = reader.read(part, IMPLICIT) == 0 && message.understand(reader.tree());
        part.reset();
        if (!fits) {
            message.reset();
            breakOff();
        }
    }

    private void answer() {
        answered++;
        int context = message.contextIndex();
        int kind = message.kind();
        boolean isRead = message.hasSet() && reader.read(part, contexts.result(context)) == 0;
        if (kind != contexts.service(context)) {
            reply(WRONG_KIND, false);
        } else if (kind == ECHO) {
            reply(DONE, false);
        } else if (!isRead) {
            reply(BAD_SET, false);
        } else if (kind == STORE) {
            reply(store(), false);
        } else {
            find();
        }
        part.reset();
        message.reset();
    }

    private void reply(int status, boolean setFollows) {
        startData(COMMAND_FLAG | LAST_FLAG);
        Tree.writeNumber(1, message.kind() + ANSWER_KIND, IMPLICIT, body);
        Tree.writeNumber(2, message.number(), IMPLICIT, body);
        Tree.writeNumber(3, setFollows ? 1 : 0, IMPLICIT, body);
        Tree.writeNumber(4, status, IMPLICIT, body);
        put(DATA_PIECE);
    }

    private void startData(int flags) {
        body.reset();
        body.append(contexts.id(message.contextIndex()));
        body.append(flags);
    }

    /** Keeps the set that was read as a record, if it can: the status. */
    private int store() {
        Tree tree = reader.tree();
        if (!tree.writeAll(EXPLICIT, canonical) || canonical.count() > MOST_RECORD) {
            return BAD_SET;
        }
        int node = tree.find(0, NAME_TAG);
        if (node == NONE || tree.textLength(node) == 0) {
            return NAMELESS;
        }
        name.reset();
        tree.copyText(node, name);
        return records.keep(name, canonical) ? DONE : FULL;
    }

    /** The line is no longer READY when an answer did not fit: then nothing more is written. */
    private void find() {
        Tree pattern = reader.tree();
        Tree candidate = recordReader.tree();
        int syntax = contexts.result(message.contextIndex());
        for (int k = 0; k < records.count() && phase == READY; k++) {
            recordReader.read(records.bytes(k), EXPLICIT);
            if (matcher.matches(pattern, 0, candidate, 0, 0)) {
                reply(FOUND, true);
                if (phase == READY) {
                    startData(LAST_FLAG);
                    candidate.writeChosen(pattern, syntax, body);
                    put(DATA_PIECE);
                }
            }
        }
        if (phase == READY) {
            reply(DONE, false);
        }
    }

    /** A row of bytes (0 .. 255) that grows up to its room. */
    private static final class Bytes {
        private final int[] values;
        private int count;

        Bytes(int room) {
            values = new int[room];
            count = 0;
        }

        void reset() {
            count = 0;
        }

        int count() {
            return count;
        }

        boolean hasRoom(int n) {
            return n <= values.length - count;
        }

        void append(int value) {
            if (count < values.length) {
                values[count] = value & 255;
                count++;
            }
        }

        int get(int k) {
            return k >= 0 && k < count ? values[k] : NONE;
        }

        void become(Bytes other) {
            count = 0;
            for (int i = 0; i < other.count; i++) {
                append(other.values[i]);
            }
        }

        boolean isSame(Bytes other) {
            boolean same = count == other.count;
            for (int i = 0; i < count && same; i++) {
                same = values[i] == other.values[i];
            }
            return same;
        }
    }

    /** The bytes that wait for the other end, in a ring. */
    private static final class Output {
        private final int[] values;
        private int first;
        private int count;

        Output() {
            values = new int[OUTPUT_ROOM];
            first = 0;
            count = 0;
        }

        int count() {
            return count;
        }

        boolean hasRoom(int n) {
            return n <= OUTPUT_ROOM - count;
        }

        void push(int value) {
            if (count < OUTPUT_ROOM) {
                values[(first + count) % OUTPUT_ROOM] = value;
                count++;
            }
        }

        int pull() {
            if (count == 0) {
                return NONE;
            }
            int value = values[first];
            first = (first + 1) % OUTPUT_ROOM;
            count--;
            return value;
        }
    }

    /**
     * A set as a row of nodes in the order of its bytes: node 0 is the set itself (held like an
     * item), and the nodes inside a sequence or an item come right behind it.
     */
    private static final class Tree {
        private final int[] tags;
        /** The first node that is not inside this one. */
        private final int[] behind;
        /** Of a NUMBER its value, of a TEXT where its characters begin. */
        private final int[] values;
        /** How many bytes, or characters, a value has; 0 for what has nodes inside. */
        private final int[] lengths;
        private final int[] characters;
        private int count;
        private int characterCount;

        Tree() {
            tags = new int[MOST_NODES];
            behind = new int[MOST_NODES];
            values = new int[MOST_NODES];
            lengths = new int[MOST_NODES];
            characters = new int[MOST_PART];
            count = 0;
            characterCount = 0;
        }

        void reset() {
            count = 0;
            characterCount = 0;
        }

        int add(int tag, int value, int length) {
            if (count >= MOST_NODES) {
                return count - 1;
            }
            int node = count;
            tags[node] = tag;
            values[node] = value;
            lengths[node] = length;
            count++;
            behind[node] = count;
            return node;
        }

        int characterCount() {
            return characterCount;
        }

        /** The characters of a text are added behind its node. */
        void addCharacter(int code) {
            if (characterCount < MOST_PART) {
                characters[characterCount] = code;
                characterCount++;
            }
        }

        /** All that is inside the node has been added. */
        void finish(int node) {
            if (node >= 0 && node < count) {
                behind[node] = count;
            }
        }

        int tag(int node) {
            return node >= 0 && node < count ? tags[node] : NONE;
        }

        int behind(int node) {
            return node >= 0 && node < count ? behind[node] : NONE;
        }

        int number(int node) {
            return node >= 0 && node < count ? values[node] : 0;
        }

        int textLength(int node) {
            return node >= 0 && node < count ? lengths[node] : 0;
        }

        int character(int node, int i) {
            int k = node >= 0 && node < count ? values[node] + i : NONE;
            return k >= 0 && k < characterCount ? characters[k] : NONE;
        }

        void copyText(int node, Bytes target) {
            int length = textLength(node);
            for (int i = 0; i < length; i++) {
                target.append(character(node, i));
            }
        }

        /** The element of a set that has a tag, or NONE. */
        int find(int set, int tag) {
            int node = set + 1;
            int end = behind(set);
            for (int i = 0; i < MOST_ELEMENTS && node < end; i++) {
                if (tag(node) == tag) {
                    return node;
                }
                node = behind(node);
            }
            return NONE;
        }

        /** The target becomes the canonical bytes of the set; false when it has none. */
        boolean writeAll(int syntax, Bytes target) {
            target.reset();
            boolean fits = true;
            for (int node = 1; node < count && fits; node++) {
                fits = writeNode(node, syntax, target);
            }
            return fits;
        }

        /** Appends the canonical bytes of those elements whose tags the other set has. */
        void writeChosen(Tree other, int syntax, Bytes target) {
            int top = 1;
            boolean chosen = false;
            for (int node = 1; node < count; node++) {
                if (node == top) {
                    chosen = other.find(0, tags[node]) != NONE;
                    top = behind[node];
                }
                if (chosen) {
                    writeNode(node, syntax, target);
                }
            }
        }

        /** Writes what stands before the nodes inside this one, and a value that is none of these. */
        private boolean writeNode(int node, int syntax, Bytes target) {
            int tag = tags[node];
            int kind = kindOf(tag);
            if (kind == NUMBER) {
                writeNumber(tag, values[node], syntax, target);
                return true;
            }
            int length = valueLength(node, syntax);
            if (length > LONGEST_VALUE) {
                return false;
            }
            target.append(tag);
            if (syntax == EXPLICIT && kind != ITEM_KIND) {
                target.append(kind);
            }
            target.append(length);
            if (kind == TEXT) {
                for (int i = 0; i < length; i++) {
                    target.append(i < lengths[node] ? character(node, i) : BLANK);
                }
            }
            return true;
        }

        private int valueLength(int node, int syntax) {
            int length = 0;
            for (int i = node; i < behind[node]; i++) {
                int kind = kindOf(tags[i]);
                if (i > node) {
                    length += syntax == EXPLICIT && kind != ITEM_KIND ? 3 : 2;
                }
                length += kind == TEXT ? lengths[i] + lengths[i] % 2 : lengths[i];
            }
            return length;
        }

        static void writeNumber(int tag, int value, int syntax, Bytes target) {
            int length = numberLength(value);
            target.append(tag);
            if (syntax == EXPLICIT) {
                target.append(NUMBER);
            }
            target.append(length);
            for (int i = 0; i < length; i++) {
                target.append(value >> (8 * i));
            }
        }

        static int numberLength(int value) {
            for (int length = 1; length < 4; length++) {
                int limit = 1 << (8 * length - 1);
                if (value >= -limit && value < limit) {
                    return length;
                }
            }
            return 4;
        }
    }

    /**
     * Reads the bytes of a set into a tree. What is being read stands on levels: the set on level
     * 0, sequences on odd ones, their items on even ones.
     */
    private static final class Reader {
        private static final int LEVELS = 5;
        private static final int FAULTS = 16;

        private final Tree tree;
        private final int[] nodes;
        private final int[] ends;
        private final boolean[] isOpen;
        private final int[] counts;
        private final int[] lastTags;
        private Bytes source;
        private int syntax;
        private int position;
        private int level;
        private int result;

        Reader() {
            tree = new Tree();
            nodes = new int[LEVELS];
            ends = new int[LEVELS];
            isOpen = new boolean[LEVELS];
            counts = new int[LEVELS];
            lastTags = new int[LEVELS];
            source = new Bytes(0);
            syntax = EXPLICIT;
            position = 0;
            level = NONE;
            result = 0;
        }

        Tree tree() {
            return tree;
        }

        /** 0, or the fault + 16 * its place. */
        int read(Bytes from, int inSyntax) {
            source = from;
            syntax = inSyntax;
            position = 0;
            result = 0;
            level = NONE;
            tree.reset();
            enter(ITEM, from.count(), false);
            // Each step goes on by a byte or leaves a level that took two bytes to enter.
            int steps = 2 * from.count() + 2;
            for (int step = 0; step < steps && level >= 0 && result == 0; step++) {
                if (position >= ends[level]) {
                    endLevel();
                } else if (isEndMark(source.get(position))) {
                    position++;
                    leave();
                } else if (level % 2 == 0) {
                    readElement();
                } else {
                    readItem();
                }
            }
            return result;
        }

        private void fail(int fault, int place) {
            result = fault + FAULTS * place;
        }

        private void enter(int tag, int end, boolean open) {
            if (level + 1 >= LEVELS) {
                return;
            }
            level++;
            nodes[level] = tree.add(tag, 0, 0);
            ends[level] = end;
            isOpen[level] = open;
            counts[level] = 0;
            lastTags[level] = 0;
        }

        private void leave() {
            tree.finish(nodes[level]);
            level--;
        }

        /** Only a length that is not open may end where no byte is left. */
        private void endLevel() {
            if (isOpen[level]) {
                fail(END_FAULT, ends[level]);
            } else {
                leave();
            }
        }

        private boolean isEndMark(int value) {
            return isOpen[level] && value == (level % 2 == 0 ? ITEM_END : SEQUENCE_END);
        }

        private void readElement() {
            int tag = source.get(position);
            int kind = kindOf(tag);
            if (tag < 1 || tag > HIGHEST_TAG || tag <= lastTags[level]) {
                fail(TAG_FAULT, position);
                return;
            }
            if (counts[level] == MOST_ELEMENTS) {
                fail(MANY_FAULT, position);
                return;
            }
            if (kind == SEQUENCE && level == LEVELS - 1) {
                fail(DEEP_FAULT, position);
                return;
            }
            lastTags[level] = tag;
            counts[level]++;
            position++;
            if (!readKind(kind)) {
                return;
            }
            int length = readLength(kind);
            if (length == NONE) {
                return;
            }
            if (kind == NUMBER) {
                readNumber(tag, length);
            } else if (kind == TEXT) {
                readText(tag, length);
            } else {
                enter(tag, endOf(length), length == OPEN);
            }
        }

        private void readItem() {
            if (source.get(position) != ITEM) {
                fail(ITEM_FAULT, position);
                return;
            }
            if (counts[level] == MOST_ITEMS) {
                fail(MANY_FAULT, position);
                return;
            }
            counts[level]++;
            position++;
            int length = readLength(ITEM_KIND);
            if (length != NONE) {
                enter(ITEM, endOf(length), length == OPEN);
            }
        }

        private int endOf(int length) {
            return length == OPEN ? ends[level] : position + length;
        }

        private boolean readKind(int kind) {
            if (syntax == IMPLICIT) {
                return true;
            }
            if (position >= ends[level]) {
                fail(END_FAULT, ends[level]);
                return false;
            }
            if (source.get(position) != kind) {
                fail(KIND_FAULT, position);
                return false;
            }
            position++;
            return true;
        }

        private int readLength(int kind) {
            if (position >= ends[level]) {
                fail(END_FAULT, ends[level]);
                return NONE;
            }
            int length = source.get(position);
            boolean isBeyond = length != OPEN && position + 1 + length > ends[level];
            if (isBeyond || !isLength(kind, length)) {
                fail(LENGTH_FAULT, position);
                return NONE;
            }
            position++;
            return length;
        }

        private static boolean isLength(int kind, int length) {
            if (kind == NUMBER) {
                return length >= 1 && length <= 4;
            }
            if (kind == TEXT) {
                return length <= MOST_CHARACTERS && length % 2 == 0;
            }
            return length <= LONGEST_VALUE || length == OPEN;
        }

        private void readNumber(int tag, int length) {
            int value = 0;
            for (int i = 0; i < length; i++) {
                value |= source.get(position + i) << (8 * i);
            }
            int unused = 32 - 8 * length;
            int number = value << unused >> unused;
            tree.add(tag, number, Tree.numberLength(number));
            position += length;
        }

        private void readText(int tag, int length) {
            int kept = length;
            if (length > 0 && source.get(position + length - 1) == BLANK) {
                kept--;
            }
            if (kept > 0 && source.get(position + kept - 1) == BLANK) {
                fail(VALUE_FAULT, position);
                return;
            }
            tree.add(tag, tree.characterCount(), kept);
            for (int i = 0; i < kept; i++) {
                int code = source.get(position + i);
                if (code < BLANK || code > LAST_CODE) {
                    fail(VALUE_FAULT, position);
                    return;
                }
                tree.addCharacter(code);
            }
            position += length;
        }
    }

    /** Compares records with patterns. */
    private static final class Matcher {
        private static final int DEEPEST = 2;

        /** Whether what was seen of a pattern matches so many of a text's first characters. */
        private final boolean[] reach;

        Matcher() {
            reach = new boolean[MOST_CHARACTERS + 1];
        }

        private boolean matches(Tree pattern, int set, Tree candidate, int candidateSet, int depth) {
            int node = set + 1;
            for (int i = 0; i < MOST_ELEMENTS && node < pattern.behind(set); i++) {
                int other = candidate.find(candidateSet, pattern.tag(node));
                if (other == NONE || !fits(pattern, node, candidate, other, depth)) {
                    return false;
                }
                node = pattern.behind(node);
            }
            return true;
        }

        private boolean fits(Tree pattern, int node, Tree candidate, int other, int depth) {
            int kind = kindOf(pattern.tag(node));
            if (kind == NUMBER) {
                return pattern.number(node) == candidate.number(other);
            }
            if (kind == TEXT) {
                return textFits(pattern, node, candidate, other);
            }
            int wanted = node + 1;
            if (wanted == pattern.behind(node)) {
                return true;
            }
            int item = other + 1;
            boolean found = false;
            for (int i = 0; i < MOST_ITEMS && item < candidate.behind(other) && !found; i++) {
                found = depth < DEEPEST && matches(pattern, wanted, candidate, item, depth + 1);
                item = candidate.behind(item);
            }
            return found;
        }

        private boolean textFits(Tree pattern, int node, Tree candidate, int other) {
            int wanted = pattern.textLength(node);
            int length = Math.min(MOST_CHARACTERS, candidate.textLength(other));
            if (wanted == 0) {
                return true;
            }
            for (int j = 0; j <= length; j++) {
                reach[j] = j == 0;
            }
            for (int i = 0; i < wanted; i++) {
                int code = pattern.character(node, i);
                if (code == '*') {
                    for (int j = 1; j <= length; j++) {
                        reach[j] = reach[j] || reach[j - 1];
                    }
                } else {
                    for (int j = length; j > 0; j--) {
                        boolean same = code == '?' || code == candidate.character(other, j - 1);
                        reach[j] = same && reach[j - 1];
                    }
                    reach[0] = false;
                }
            }
            return reach[length];
        }
    }

    /** The contexts that were asked for, with their results. */
    private static final class Contexts {
        private static final int MOST = 4;
        private static final int BYTES_EACH = 3;
        private static final int BEFORE_THEM = 2;
        private static final int NO_SERVICE = 2;
        private static final int NO_SYNTAX = 3;

        private final int[] ids;
        private final int[] services;
        private final int[] results;
        private int count;

        Contexts() {
            ids = new int[MOST];
            services = new int[MOST];
            results = new int[MOST];
            count = 0;
        }

        int count() {
            return count;
        }

        int id(int context) {
            return has(context) ? ids[context] : NONE;
        }

        int service(int context) {
            return has(context) ? services[context] : NONE;
        }

        int result(int context) {
            return has(context) ? results[context] : NONE;
        }

        private boolean has(int context) {
            return context >= 0 && context < count;
        }

        int find(int id) {
            for (int i = 0; i < count; i++) {
                if (ids[i] == id) {
                    return i;
                }
            }
            return NONE;
        }

        /** The results 0 and 1 are the syntaxes; the others refuse the context. */
        boolean isUsable(int context) {
            return has(context) && results[context] <= IMPLICIT;
        }

        /** Takes the contexts out of a request; false when they are not as they have to be. */
        boolean readRequest(Bytes piece) {
            count = 0;
            int length = piece.count() - PIECE_HEAD - BEFORE_THEM;
            int asked = length / BYTES_EACH;
            if (length % BYTES_EACH != 0 || asked < 1 || asked > MOST) {
                return false;
            }
            for (int i = 0; i < asked; i++) {
                int first = PIECE_HEAD + BEFORE_THEM + BYTES_EACH * i;
                int id = piece.get(first);
                if (id % 2 == 0 || find(id) != NONE) {
                    return false;
                }
                ids[i] = id;
                services[i] = piece.get(first + 1);
                results[i] = resultOf(services[i], piece.get(first + 2));
                count++;
            }
            return true;
        }

        private static int resultOf(int service, int syntaxes) {
            if (service < ECHO || service > FIND) {
                return NO_SERVICE;
            }
            if ((syntaxes & 1) != 0) {
                return EXPLICIT;
            }
            return (syntaxes & 2) != 0 ? IMPLICIT : NO_SYNTAX;
        }
    }

    /** How far a message has come, and what its command says. */
    private static final class Message {
        private static final int COMMAND_WANTED = 0;
        private static final int COMMAND_THERE = 1;
        private static final int SET_WANTED = 2;
        private static final int WHOLE = 3;

        private int stage;
        /** NONE until the first fragment, which may have no bytes. */
        private int context;
        private int kind;
        private int number;
        private boolean hasSet;

        Message() {
            stage = COMMAND_WANTED;
            context = NONE;
            kind = 0;
            number = 0;
            hasSet = false;
        }

        void reset() {
            stage = COMMAND_WANTED;
            context = NONE;
            hasSet = false;
        }

        boolean wants(boolean set, int ofContext) {
            return set == wantsSet() && (context == NONE || context == ofContext);
        }

        boolean wantsSet() {
            return stage == SET_WANTED;
        }

        boolean isCommandThere() {
            return stage == COMMAND_THERE;
        }

        boolean isWhole() {
            return stage == WHOLE;
        }

        int contextIndex() {
            return context;
        }

        int kind() {
            return kind;
        }

        int number() {
            return number;
        }

        boolean hasSet() {
            return hasSet;
        }

        void addFragment(int ofContext, boolean isLast) {
            context = ofContext;
            if (isLast) {
                stage = stage == SET_WANTED ? WHOLE : COMMAND_THERE;
            }
        }

        /** Takes over what the command says; false when it is not a command. */
        boolean understand(Tree command) {
            int kindNode = command.find(0, 1);
            int numberNode = command.find(0, 2);
            int followsNode = command.find(0, 3);
            if (kindNode == NONE || numberNode == NONE || followsNode == NONE) {
                return false;
            }
            kind = command.number(kindNode);
            number = command.number(numberNode);
            int follows = command.number(followsNode);
            hasSet = follows == 1;
            stage = hasSet ? SET_WANTED : WHOLE;
            return kind >= ECHO && kind <= FIND && (follows == 0 || follows == 1);
        }
    }

    /** The records, in the order in which they came, each as its canonical explicit bytes. */
    private static final class Records {
        private static final int MOST = 8;

        private final Bytes[] names;
        private final Bytes[] bytes;
        private int count;

        Records(int room) {
            int rows = Math.max(1, Math.min(MOST, room));
            names = new Bytes[rows];
            bytes = new Bytes[rows];
            for (int k = 0; k < rows; k++) {
                names[k] = new Bytes(MOST_CHARACTERS);
                bytes[k] = new Bytes(MOST_RECORD);
            }
            count = 0;
        }

        int count() {
            return count;
        }

        Bytes bytes(int k) {
            return bytes[k];
        }

        /** Puts a record in the place of its name, or behind the last one; false when full. */
        boolean keep(Bytes name, Bytes record) {
            int place = 0;
            while (place < count && !names[place].isSame(name)) {
                place++;
            }
            if (place == names.length) {
                return false;
            }
            if (place == count) {
                names[place].become(name);
                count++;
            }
            bytes[place].become(record);
            return true;
        }
    }
}
