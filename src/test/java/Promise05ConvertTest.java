/** Promise 5: convert. */
public final class Promise05ConvertTest {
    public static void main(String[] args) {
        numbersShrink();
        textsStay();
        openLengthsEnd();
        wrongArguments();
        faultsAndSizes();
        Kit.end();
    }

    private static void converts(int from, int to, int[] bytes, int... want) {
        Node x = new Node(1);
        Kit.type(x, bytes);
        Kit.due("convert(" + from + ", " + to + ")", x.convert(from, to), want.length);
        Kit.due("canonical bytes", Kit.draft(x), want);
        Kit.due("they are a set", x.check(to), 0);
    }

    private static void numbersShrink() {
        converts(1, 1, Kit.bytes(1, 4, 0, 0, 0, 0), 1, 1, 0);
        converts(1, 1, Kit.bytes(1, 4, 127, 0, 0, 0), 1, 1, 127);
        converts(1, 1, Kit.bytes(1, 4, 128, 0, 0, 0), 1, 2, 128, 0);
        converts(1, 1, Kit.bytes(1, 4, 255, 255, 255, 255), 1, 1, 255);
        converts(1, 1, Kit.bytes(1, 3, 128, 255, 255), 1, 1, 128);
        converts(1, 1, Kit.bytes(1, 3, 127, 255, 255), 1, 2, 127, 255);
        converts(1, 1, Kit.bytes(1, 4, 255, 127, 0, 0), 1, 2, 255, 127);
        converts(1, 1, Kit.bytes(1, 4, 0, 128, 0, 0), 1, 3, 0, 128, 0);
        converts(1, 1, Kit.bytes(1, 4, 0, 128, 255, 255), 1, 2, 0, 128);
        converts(1, 1, Kit.bytes(1, 4, 255, 127, 255, 255), 1, 3, 255, 127, 255);
        converts(1, 1, Kit.bytes(1, 4, 255, 255, 127, 0), 1, 3, 255, 255, 127);
        converts(1, 1, Kit.bytes(1, 4, 0, 0, 128, 0), 1, 4, 0, 0, 128, 0);
        converts(1, 1, Kit.bytes(1, 4, 0, 0, 128, 255), 1, 3, 0, 0, 128);
        converts(1, 1, Kit.bytes(1, 4, 0, 0, 0, 128), 1, 4, 0, 0, 0, 128);
        converts(1, 1, Kit.bytes(1, 4, 1, 2, 3, 4), 1, 4, 1, 2, 3, 4);
        converts(1, 0, Kit.bytes(1, 2, 5, 0, 2, 1, 6), 1, 1, 1, 5, 2, 1, 1, 6);
    }

    private static void textsStay() {
        converts(0, 1, Kit.bytes(80, 2, 0, 81, 2, 2, 65, 32), 80, 0, 81, 2, 65, 32);
        converts(1, 0, Kit.bytes(80, 0, 81, 4, 65, 66, 67, 32), 80, 2, 0, 81, 2, 4, 65, 66, 67, 32);
        int[] longest = Kit.join(Kit.bytes(80, 16), Kit.many(16, 66));
        converts(1, 1, longest, longest);
        int[] fifteen = Kit.join(Kit.bytes(80, 16), Kit.many(15, 66), Kit.bytes(32));
        converts(1, 1, fifteen, fifteen);
    }

    private static void openLengthsEnd() {
        converts(0, 0, Kit.bytes());
        converts(1, 1, Kit.bytes(160, 255, 252), 160, 0);
        converts(1, 0, Kit.bytes(160, 255, 254, 255, 253, 252), 160, 3, 2, 254, 0);
        converts(1, 0, Kit.bytes(160, 255, 254, 255, 1, 2, 7, 0, 160, 255, 254, 1 + 1, 80, 0, 254, 255, 253, 252, 253,
                254, 0, 252, 161, 0),
                160, 3, 18, 254, 14, 1, 1, 1, 7, 160, 3, 7, 254, 3, 80, 2, 0, 254, 0, 254, 0, 161, 3, 0);
    }

    private static void wrongArguments() {
        Node x = new Node(1);
        Kit.type(x, 0);
        int[][] wrong = {{2, 0}, {0, 2}, {-1, 0}, {0, -1}, {2, 2}};
        for (int[] pair : wrong) {
            Kit.dueThrows("convert(" + pair[0] + ", " + pair[1] + ") of a faulty draft", IllegalArgumentException.class,
                    () -> x.convert(pair[0], pair[1]));
        }
        Kit.due("the draft afterwards", Kit.draft(x), 0);
    }

    private static void faultsAndSizes() {
        Node x = new Node(1);
        Kit.retype(x, 1, 2, 3, 0, 1);
        Kit.dueThrows("convert of a fault", IllegalStateException.class, () -> x.convert(1, 0));
        Kit.due("the draft afterwards", Kit.draft(x), 1, 2, 3, 0, 1);
        int[] row = wide(10);
        Kit.retype(x, row);
        Kit.due("convert to 120 bytes", x.convert(1, 0), 120);
        Kit.due("back again", x.convert(0, 1), row.length);
        row = wide(12);
        Kit.retype(x, row);
        Kit.dueThrows("convert to 122 bytes", IllegalStateException.class, () -> x.convert(1, 0));
        Kit.due("the draft afterwards", Kit.draft(x), row);
        Kit.due("convert to the same syntax", x.convert(1, 1), row.length);
    }

    /** Ten texts: 110 + n bytes in the explicit syntax, 100 + n in the implicit one. */
    private static int[] wide(int n) {
        int[] row = new int[0];
        for (int tag = 80; tag < 85; tag++) {
            row = Kit.join(row, Kit.bytes(tag, 16), Kit.many(16, 65));
        }
        row = Kit.join(row, Kit.bytes(85, n), Kit.many(n, 65));
        return Kit.join(row, Kit.bytes(86, 0, 87, 0, 88, 0, 89, 0));
    }
}
