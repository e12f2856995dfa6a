/** Promise 9 again: the answers of FIND, and which records match. */
public final class Promise09FindTest {
    private static final int[] ANN = Kit.join(Kit.number(5, 7), Kit.text(80, "ann"), Kit.text(90, "red"),
            Kit.sequence(160, Kit.join(Kit.number(1, 1), Kit.text(80, "x")), Kit.number(1, 2)));
    private static final int[] BOB = Kit.join(Kit.number(5, -7), Kit.text(80, "bob"), Kit.text(90, ""),
            Kit.sequence(160));

    public static void main(String[] args) {
        setsThatCannotBeRead();
        answersInOrder();
        elementsThatAreAsked();
        numbers();
        texts();
        sequences();
        sequencesInside();
        bothSyntaxes();
        lastOfAllCount();
        largestPattern();
        Kit.end();
    }

    private static Node two() {
        Node x = Kit.ready(3);
        Kit.dueStore("ann", x, 0, ANN);
        Kit.dueStore("bob", x, 0, BOB);
        return x;
    }

    private static int[] found(int... set) {
        return Kit.join(Kit.answer(5, 3, 6, 1, 1), Kit.set(5, set));
    }

    private static int[] end() {
        return Kit.answer(5, 3, 6, 0, 0);
    }

    private static int[] ask(Node x, int... set) {
        Kit.feed(x, Kit.join(Kit.command(5, 3, 6, 1), Kit.set(5, set)));
        return Kit.takeAll(x);
    }

    private static void setsThatCannotBeRead() {
        Node x = two();
        Kit.feed(x, Kit.command(5, 3, 6, 0));
        Kit.due("no set", Kit.takeAll(x), Kit.answer(5, 3, 6, 0, 3));
        Kit.due("a fault", ask(x, 80, 2, 1), Kit.answer(5, 3, 6, 0, 3));
        Kit.due("implicit bytes", ask(x, 80, 0), Kit.answer(5, 3, 6, 0, 3));
        Kit.due("READY all the same", x.state(0), Kit.READY);
        Kit.due("both records are there", x.state(6), 2);
    }

    private static void answersInOrder() {
        Kit.due("no records", ask(Kit.ready(1), Kit.text(80, "")), end());
        Node x = two();
        Kit.due("an empty set", ask(x), Kit.join(found(), found(), end()));
        Kit.due("names", ask(x, Kit.text(80, "")),
                Kit.join(found(Kit.text(80, "ann")), found(Kit.text(80, "bob")), end()));
        Kit.due("bob", ask(x, Kit.text(80, "bob")), Kit.join(found(Kit.text(80, "bob")), end()));
        Kit.due("nobody", ask(x, Kit.text(80, "bo")), end());
        Kit.due("each is counted once", x.state(7), 6);
    }

    private static void elementsThatAreAsked() {
        Node x = two();
        Kit.due("all of bob", ask(x, Kit.join(Kit.number(5, -7), Kit.text(80, ""), Kit.text(90, ""), Kit.sequence(160))),
                Kit.join(found(BOB), end()));
        Kit.due("whole sequences", ask(x, Kit.join(Kit.text(80, "a*"), Kit.sequence(160, Kit.number(1, 2)))),
                Kit.join(found(Kit.join(Kit.text(80, "ann"), java.util.Arrays.copyOfRange(ANN, 18, ANN.length))), end()));
        Kit.due("a tag that no record has", ask(x, Kit.text(81, "")), end());
        Kit.due("a sequence that no record has", ask(x, Kit.sequence(161)), end());
        Kit.due("one of two tags", ask(x, Kit.join(Kit.text(80, ""), Kit.text(81, ""))), end());
    }

    private static void numbers() {
        Node x = two();
        Kit.due("7", ask(x, Kit.number(5, 7)), Kit.join(found(Kit.number(5, 7)), end()));
        Kit.due("7 in more bytes", ask(x, 5, 1, 4, 7, 0, 0, 0), Kit.join(found(Kit.number(5, 7)), end()));
        Kit.due("-7", ask(x, 5, 1, 2, 249, 255), Kit.join(found(Kit.number(5, -7)), end()));
        Kit.due("249", ask(x, 5, 1, 2, 249, 0), end());
    }

    private static void textMatches(String kept, String pattern, boolean want) {
        Node x = Kit.ready(1);
        int[] record = Kit.join(Kit.text(80, "n"), Kit.text(90, kept));
        Kit.dueStore(kept, x, 0, record);
        int[] answer = want ? Kit.join(found(Kit.text(90, kept)), end()) : end();
        Kit.due("'" + pattern + "' for '" + kept + "'", ask(x, Kit.text(90, pattern)), answer);
    }

    private static void texts() {
        textMatches("", "", true);
        textMatches("", "*", true);
        textMatches("", "**", true);
        textMatches("", "?", false);
        textMatches("", "a", false);
        textMatches("abc", "", true);
        textMatches("abc", "abc", true);
        textMatches("abc", "ABC", false);
        textMatches("abc", "ab", false);
        textMatches("abc", "abcd", false);
        textMatches("abc", "*", true);
        textMatches("abc", "a*", true);
        textMatches("abc", "*c", true);
        textMatches("abc", "*b*", true);
        textMatches("abc", "abc*", true);
        textMatches("abc", "*abc", true);
        textMatches("abc", "b*", false);
        textMatches("abc", "???", true);
        textMatches("abc", "??", false);
        textMatches("abc", "????", false);
        textMatches("abc", "*??", true);
        textMatches("abc", "?*?*?", true);
        textMatches("abc", "?*?*?*?", false);
        textMatches("aab", "*ab", true);
        textMatches("ababac", "*abac", true);
        textMatches("mississippi", "m*iss*s?i", false);
        textMatches("mississippi", "m*iss*i??i", true);
        textMatches("a*c", "a*c", true);
        textMatches("a*c", "a?c", true);
        textMatches("*", "a", false);
        textMatches("?", "b", false);
        textMatches("a b", "a?b", true);
        textMatches("a.b", "a.b", true);
        textMatches("axb", "a.b", false);
        textMatches("0123456789abcdef", "0123456789abcdef", true);
        textMatches("0123456789abcdef", "????????????????", true);
        textMatches("aaaaaaaaaaaaaaaa", "*a*a*a*a*a*a*a*b", false);
        textMatches("aaaaaaaaaaaaaaaa", "*a*a*a*a*a*a*a*a", true);
        textMatches("aaaaaaaaaaaaaaaa", "****************", true);
    }

    private static final int[] DEEP = Kit.sequence(160,
            Kit.join(Kit.number(1, 1), Kit.sequence(170, Kit.text(80, "one"), Kit.text(80, "two"))),
            Kit.join(Kit.number(1, 2), Kit.sequence(170, Kit.text(80, "three"))));

    private static Node deepAndFlat() {
        Node x = Kit.ready(2);
        Kit.dueStore("deep", x, 0, Kit.join(Kit.text(80, "n"), DEEP));
        Kit.dueStore("flat", x, 0, Kit.join(Kit.text(80, "m"), Kit.sequence(160)));
        return x;
    }

    private static void sequences() {
        Node x = deepAndFlat();
        int[] found = found(DEEP);
        int[] foundEmpty = found(Kit.sequence(160));
        Kit.due("without items", ask(x, Kit.sequence(160)), Kit.join(found, foundEmpty, end()));
        Kit.due("an empty item", ask(x, Kit.sequence(160, new int[0])), Kit.join(found, end()));
        Kit.due("the second item", ask(x, Kit.sequence(160, Kit.number(1, 2))), Kit.join(found, end()));
        Kit.due("no such item", ask(x, Kit.sequence(160, Kit.number(1, 3))), end());
        Kit.due("only the first item is asked", ask(x, Kit.sequence(160, Kit.number(1, 1), Kit.number(1, 3))),
                Kit.join(found, end()));
        Kit.due("not the second one", ask(x, Kit.sequence(160, Kit.number(1, 3), Kit.number(1, 1))), end());
    }

    private static void sequencesInside() {
        Node x = deepAndFlat();
        int[] found = found(DEEP);
        Kit.due("inside", ask(x, Kit.sequence(160, Kit.sequence(170, Kit.text(80, "t*")))), Kit.join(found, end()));
        Kit.due("inside one and the same item",
                ask(x, Kit.sequence(160, Kit.join(Kit.number(1, 1), Kit.sequence(170, Kit.text(80, "three"))))), end());
        Kit.due("inside the right one",
                ask(x, Kit.sequence(160, Kit.join(Kit.number(1, 1), Kit.sequence(170, Kit.text(80, "two"))))),
                Kit.join(found, end()));
    }

    private static void bothSyntaxes() {
        Node x = two();
        Kit.feed(x, Kit.join(Kit.command(7, 3, 6, 1), Kit.set(7, 5, 1, 7, 80, 0, 160, 255, 252)));
        Kit.due("an implicit answer", Kit.takeAll(x), Kit.join(Kit.answer(7, 3, 6, 1, 1),
                Kit.set(7, 5, 1, 7, 80, 4, 'a', 'n', 'n', 32, 160, 14, 254, 7, 1, 1, 1, 80, 2, 'x', 32, 254, 3, 1, 1, 2),
                Kit.answer(7, 3, 6, 0, 0)));
        int[] pattern = Promise09MessageTest.tooLong();
        Kit.feed(x, Kit.join(Kit.command(7, 3, 6, 1), Kit.set(7, pattern)));
        Kit.due("a set without canonical explicit bytes has no fault", Kit.takeAll(x), Kit.answer(7, 3, 6, 0, 0));
    }

    /** The tenth element and the fourth item are looked at like the others. */
    private static void lastOfAllCount() {
        int[] record = new int[0];
        int[] pattern = new int[0];
        for (int tag = 80; tag < 89; tag++) {
            record = Kit.join(record, Kit.text(tag, "x"));
            pattern = Kit.join(pattern, Kit.text(tag, ""));
        }
        int[] four = Kit.sequence(160, Kit.number(1, 1), Kit.number(1, 2), Kit.number(1, 3), Kit.number(1, 4));
        Node x = Kit.ready(1);
        Kit.dueStore("ten elements", x, 0, Kit.join(record, four));
        Kit.due("the tenth element", ask(x, Kit.sequence(160)), Kit.join(found(four), end()));
        Kit.due("the fourth item", ask(x, Kit.sequence(160, Kit.number(1, 4))), Kit.join(found(four), end()));
        Kit.due("none of four", ask(x, Kit.sequence(160, Kit.number(1, 5))), end());
        Kit.due("ten of ten", ask(x, Kit.join(pattern, Kit.sequence(160, Kit.number(1, 4)))),
                Kit.join(found(Kit.join(record, four)), end()));
        Kit.due("nine of ten", ask(x, Kit.join(pattern, Kit.sequence(160, Kit.number(1, 5)))), end());
    }

    private static int[] emptyTexts(int n, boolean explicit) {
        int[] row = new int[0];
        for (int i = 0; i < n; i++) {
            row = Kit.join(row, explicit ? Kit.text(80 + i, "") : Kit.bytes(80 + i, 0));
        }
        return row;
    }

    /** 200 implicit bytes, each two of them an element or an item; the last one decides. */
    private static void largestPattern() {
        int[] item = Kit.join(Kit.bytes(254, 20), emptyTexts(10, false));
        int[] four = Kit.join(item, item, item, item);
        int[] pattern = Kit.join(Kit.bytes(160, 88), four, Kit.bytes(161, 88), four, Kit.bytes(162, 18, 254, 16),
                emptyTexts(8, false));
        Kit.due("made for 200", pattern.length, 200);
        int[] ten = emptyTexts(10, true);
        Node x = Kit.ready(2);
        for (int n = 7; n <= 8; n++) {
            Kit.dueStore("a record for it", x, 0, Kit.join(Kit.text(80, "n" + n), Kit.sequence(160, ten),
                    Kit.sequence(161, ten), Kit.sequence(162, emptyTexts(n, true))));
        }
        Kit.feed(x, Kit.join(Kit.command(7, 3, 6, 1), Kit.data(7, 0, java.util.Arrays.copyOf(pattern, 100)),
                Kit.data(7, 2, java.util.Arrays.copyOfRange(pattern, 100, 200))));
        int[] found = Kit.join(Kit.bytes(160, 22), item, Kit.bytes(161, 22), item, Kit.bytes(162, 18, 254, 16),
                emptyTexts(8, false));
        Kit.due("only the second record", Kit.takeAll(x), Kit.join(Kit.answer(7, 3, 6, 1, 1), Kit.set(7, found),
                Kit.answer(7, 3, 6, 0, 0)));
    }
}
