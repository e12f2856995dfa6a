/** Promise 4: check, with every fault of reading and its place. */
public final class Promise04CheckTest {
    private static final int END = 1;
    private static final int TAG = 2;
    private static final int KIND = 3;
    private static final int LENGTH = 4;
    private static final int VALUE = 5;
    private static final int ITEM = 6;
    private static final int MANY = 7;
    private static final int DEEP = 8;

    public static void main(String[] args) {
        syntaxes();
        goodSets();
        ends();
        tags();
        kinds();
        lengths();
        values();
        items();
        tooMany();
        tooDeep();
        order();
        Kit.end();
    }

    private static void good(int syntax, int... bytes) {
        Node x = new Node(1);
        Kit.type(x, bytes);
        Kit.due("check of " + java.util.Arrays.toString(bytes), x.check(syntax), 0);
        Kit.due("the draft after check", Kit.draft(x), bytes);
    }

    private static void bad(int syntax, int fault, int place, int... bytes) {
        Node x = new Node(1);
        Kit.type(x, bytes);
        Kit.due("check of " + java.util.Arrays.toString(bytes), x.check(syntax), fault + 16 * place);
    }

    private static void syntaxes() {
        int[] wrong = {-1, 2, 3, Integer.MAX_VALUE, Integer.MIN_VALUE};
        Node x = new Node(1);
        for (int syntax : wrong) {
            Kit.dueThrows("check(" + syntax + ")", IllegalArgumentException.class, () -> x.check(syntax));
        }
    }

    private static void goodSets() {
        good(0);
        good(1);
        good(0, 1, 1, 1, 0, 79, 1, 4, 1, 2, 3, 4, 80, 2, 0, 159, 2, 2, 32, 65, 160, 3, 0, 200, 3, 0);
        good(1, 1, 1, 0, 79, 4, 1, 2, 3, 4, 80, 0, 159, 2, 32, 65, 160, 0, 200, 0);
        good(1, Kit.join(Kit.bytes(81, 16), Kit.many(16, 126)));
        good(1, 81, 2, 65, 32);
        good(1, 160, 255, 252);
        good(1, 160, 255, 254, 255, 253, 252);
        good(1, 160, 255, 254, 0, 254, 0, 254, 0, 254, 0, 252);
        good(1, 160, 8, 254, 0, 254, 0, 254, 0, 254, 0);
        good(1, 160, 3, 254, 255, 253);
        good(1, 160, 255, 254, 2, 80, 0, 252, 161, 0);
        good(1, 160, 255, 254, 255, 160, 255, 254, 255, 1, 1, 7, 253, 252, 253, 252, 161, 255, 252);
        good(1, Kit.join(Kit.bytes(160, 255, 254, 255), tenTexts(80), Kit.bytes(253, 252)));
        good(1, tenTexts(80));
    }

    private static int[] tenTexts(int first) {
        int[] row = new int[20];
        for (int i = 0; i < 10; i++) {
            row[2 * i] = first + i;
        }
        return row;
    }

    private static void ends() {
        bad(1, END, 1, 1);
        bad(0, END, 1, 1);
        bad(0, END, 2, 1, 1);
        bad(0, END, 1, 80);
        bad(1, END, 2, 160, 255);
        bad(1, END, 4, 160, 255, 254, 255);
        bad(1, END, 3, 160, 255, 254);
        bad(1, END, 3, 160, 1, 254, 80, 0);
        bad(1, END, 4, 160, 2, 254, 255, 253);
        bad(1, END, 5, 160, 255, 254, 255, 253);
        bad(1, END, 5, 160, 3, 254, 1, 80, 0);
        bad(1, END, 5, 160, 3, 254, 255, 80, 0);
        bad(0, END, 6, 160, 3, 3, 254, 1, 5, 81, 2, 0);
        bad(1, END, 6, 160, 4, 254, 2, 160, 255, 252);
        bad(1, END, 5, 160, 255, 254, 1, 80, 253, 252);
    }

    private static void tags() {
        bad(1, TAG, 0, 0, 0);
        bad(1, TAG, 0, 201, 0);
        bad(1, TAG, 0, 252);
        bad(1, TAG, 0, 253);
        bad(1, TAG, 0, 254, 0);
        bad(1, TAG, 0, 255);
        bad(1, TAG, 2, 80, 0, 80, 0);
        bad(1, TAG, 2, 81, 0, 80, 0);
        bad(1, TAG, 4, 160, 1 + 1, 254, 0, 160, 0);
        bad(1, TAG, 4, 160, 3, 254, 1, 253);
        bad(1, TAG, 4, 160, 255, 254, 255, 252, 253);
        bad(1, TAG, 6, 160, 255, 254, 255, 80, 0, 80, 0, 253, 252);
        // the tags of an item have nothing to do with those around it
        good(1, 1, 1, 1, 160, 4, 254, 2, 80, 0, 161, 4, 254, 2, 80, 0);
    }

    private static void kinds() {
        bad(0, KIND, 1, 1, 2, 1, 0);
        bad(0, KIND, 1, 79, 0, 1, 0);
        bad(0, KIND, 1, 80, 1, 0);
        bad(0, KIND, 1, 159, 3, 0);
        bad(0, KIND, 1, 160, 2, 0);
        bad(0, KIND, 1, 200, 4, 0);
        bad(0, KIND, 6, 160, 3, 5, 254, 3, 80, 3, 0);
    }

    private static void lengths() {
        bad(1, LENGTH, 1, 1, 0);
        bad(1, LENGTH, 1, 1, 5, 1, 1, 1, 1, 1);
        bad(1, LENGTH, 1, 1, 255, 1);
        bad(1, LENGTH, 1, 1, 2, 1);
        bad(0, LENGTH, 2, 1, 1, 4, 1, 1, 1);
        bad(1, LENGTH, 1, 80, 1, 65);
        bad(1, LENGTH, 1, Kit.join(Kit.bytes(80, 18), Kit.many(18, 65)));
        bad(1, LENGTH, 1, 80, 255);
        bad(1, LENGTH, 1, 80, 4, 65, 65, 65);
        bad(1, LENGTH, 1, 160, 241);
        bad(1, LENGTH, 1, 160, 254);
        bad(1, LENGTH, 1, 160, 1);
        bad(1, LENGTH, 3, 160, 2, 254, 1, 253);
        bad(1, LENGTH, 3, 160, 255, 254, 250);
        bad(1, LENGTH, 5, 160, 4, 254, 255, 80, 2, 65, 65, 253);
        bad(1, LENGTH, 5, 160, 4, 254, 2, 80, 2, 65, 65);
        bad(1, LENGTH, 5, 160, 255, 254, 255, 1, 3, 1, 1);
    }

    private static void values() {
        bad(1, VALUE, 2, 80, 2, 32, 32);
        bad(1, VALUE, 2, 80, 4, 65, 65, 32, 32);
        bad(1, VALUE, 2, 80, 2, 31, 65);
        bad(1, VALUE, 2, 80, 2, 65, 127);
        bad(1, VALUE, 2, 80, 2, 255, 32);
        bad(0, VALUE, 3, 80, 2, 4, 65, 65, 0, 65);
        bad(0, VALUE, 8, 160, 3, 255, 254, 255, 80, 2, 2, 32, 32);
        good(1, 80, 4, 32, 32, 32, 65);
        good(1, 80, 4, 65, 32, 65, 32);
    }

    private static void items() {
        bad(1, ITEM, 2, 160, 1, 0);
        bad(1, ITEM, 2, 160, 2, 252, 0);
        bad(1, ITEM, 2, 160, 255, 253);
        bad(1, ITEM, 4, 160, 255, 254, 0, 1);
        bad(1, ITEM, 2, 160, 1, 252);
        bad(1, ITEM, 5, 160, 255, 254, 255, 253, 253);
    }

    private static void tooMany() {
        bad(1, MANY, 20, Kit.join(tenTexts(80), Kit.bytes(90, 0)));
        bad(1, MANY, 24, Kit.join(Kit.bytes(160, 255, 254, 255), tenTexts(80), Kit.bytes(90, 0, 253, 252)));
        bad(1, MANY, 10, 160, 255, 254, 0, 254, 0, 254, 0, 254, 0, 254, 0, 252);
        bad(1, MANY, 10, 160, 9, 254, 0, 254, 0, 254, 0, 254, 0, 254);
    }

    private static void tooDeep() {
        bad(1, DEEP, 8, 160, 255, 254, 255, 160, 255, 254, 255, 160, 0);
        bad(1, DEEP, 8, 160, 8, 254, 6, 160, 4, 254, 2, 200, 0);
        bad(0, DEEP, 10, 160, 3, 255, 254, 255, 160, 3, 255, 254, 255, 160);
        good(1, 160, 8, 254, 6, 160, 4, 254, 2, 159, 0);
    }

    private static void order() {
        // at a tag: 2 before 7 before 8
        bad(1, TAG, 20, Kit.join(tenTexts(80), Kit.bytes(89, 0)));
        bad(1, TAG, 20, Kit.join(tenTexts(80), Kit.bytes(253)));
        int[] deep = {160, 255, 254, 255, 160, 255, 254, 255};
        bad(1, MANY, 28, Kit.join(deep, tenTexts(80), Kit.bytes(160, 0)));
        bad(1, DEEP, 26, Kit.join(deep, java.util.Arrays.copyOf(tenTexts(80), 18), Kit.bytes(160, 0)));
        bad(1, TAG, 28, Kit.join(deep, tenTexts(80), Kit.bytes(201, 0)));
        // the kind before the length, the length before the value
        bad(0, KIND, 1, 80, 1, 99);
        bad(0, LENGTH, 2, 80, 2, 3, 32, 32, 32);
        // the first fault is told, not a later one
        bad(1, LENGTH, 1, 1, 9, 0, 0);
        bad(1, VALUE, 2, 80, 2, 32, 32, 0);
        // the eleventh is told before its missing length
        bad(1, MANY, 20, Kit.join(tenTexts(80), Kit.bytes(90)));
    }
}
