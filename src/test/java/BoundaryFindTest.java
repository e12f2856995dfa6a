import java.util.ArrayList;
import java.util.List;

/** FIND at its limits: no set, empty ones and the largest, and which records match. */
public final class BoundaryFindTest {
    public static void main(String[] args) {
        noSetOrAFault();
        noRecords();
        anEmptySet();
        oneToEightRecords();
        theOrderOfRecords();
        elementsThatAreAsked();
        theLargestAnswer();
        theLargestSet();
        theLongestLengths();
        eachElementMustFit();
        eachOfTenElements();
        numbers();
        shortTexts();
        emptyTexts();
        eachCharacter();
        longTexts();
        sequencesWithoutItems();
        theFirstItemOnly();
        anyItemOfTheRecord();
        itemsAreMatchedAsSets();
        sequencesInSequences();
        Kit.end();
    }

    private static int[] found(int... set) {
        return Kit.join(Kit.answer(5, 3, 6, 1, 1), Kit.set(5, set));
    }

    private static int[] end() {
        return Kit.answer(5, 3, 6, 0, 0);
    }

    private static int[] ask(Node x, int... set) {
        Kit.feed(x, Kit.join(Kit.command(5, 3, 6, 1), Kit.set(5, set)));
        return Kit.takeAll(x);
    }

    private static Node with(int[]... records) {
        Node x = Kit.ready(8);
        for (int[] record : records) {
            Kit.store(x, record);
        }
        for (int n = 16 * records.length; n > 0; n--) {
            x.take();
        }
        Kit.due("all are kept", x.state(6), records.length);
        return x;
    }

    /** Whether a record with a name and other elements matches a set of such elements. */
    private static void matches(String what, boolean want, int[] kept, int[] asked) {
        Node x = Kit.ready(1);
        int[] name = Kit.text(80, "n");
        Kit.store(x, kept[0] < 80 ? Kit.join(kept, name) : Kit.join(name, kept));
        int before = x.state(2);
        Kit.feed(x, Kit.join(Kit.command(5, 3, 6, 1), Kit.set(5, asked)));
        Kit.due("the record is kept", x.state(6), 1);
        Kit.due("an answer: " + what, x.state(2) >= before + 16, true);
        Kit.due(what, x.state(2) > before + 16, want);
    }

    /** "FIND: 3 if there is no set or it has a fault" */
    private static void noSetOrAFault() {
        Node x = with(Kit.text(80, "a"));
        Kit.feed(x, Kit.command(5, 3, 6, 0));
        Kit.due("no set", Kit.takeAll(x), Kit.answer(5, 3, 6, 0, 3));
        int[][] faulty = {{80}, {0}, {80, 3, 0}, {80, 2, 1}, {80, 2, 2, 32, 32}, {160, 3, 1, 1}, {80, 0},
            Kit.join(Kit.text(80, ""), Kit.text(80, "")), Kit.sequence(160, Kit.sequence(160, Kit.sequence(160))),
            Kit.join(Kit.number(1, 1), Reading.bytes(0, Reading.tenTexts(80)))};
        for (int[] set : faulty) {
            Kit.due("a fault", ask(x, set), Kit.answer(5, 3, 6, 0, 3));
        }
        Kit.due("none", ask(x, Kit.text(80, "")), Kit.join(found(Kit.text(80, "a")), end()));
        Kit.due("each is counted", x.state(7), 13);
        Kit.due("READY", x.state(0), Kit.READY);
    }

    /** "and then one with status 0": also when there is none before it. */
    private static void noRecords() {
        Kit.due("an empty set", ask(Kit.ready(1)), end());
        Kit.due("a name", ask(Kit.ready(1), Kit.text(80, "")), end());
        Kit.due("none that matches", ask(with(Kit.text(80, "a")), Kit.text(80, "b")), end());
    }

    /** "a set (perhaps empty, as of an empty one)" */
    private static void anEmptySet() {
        Node x = with(Kit.text(80, "a"), Kit.join(Kit.number(1, 1), Kit.text(80, "b")));
        Kit.due("an empty set", ask(x), Kit.join(found(), found(), end()));
        Kit.feed(x, Kit.join(Kit.command(7, 3, 6, 1), Kit.set(7)));
        Kit.due("an empty implicit set", Kit.takeAll(x), Kit.join(Kit.answer(7, 3, 6, 1, 1), Kit.set(7),
                Kit.answer(7, 3, 6, 1, 1), Kit.set(7), Kit.answer(7, 3, 6, 0, 0)));
    }

    private static void oneToEightRecords() {
        for (int n = 1; n <= 8; n++) {
            Node x = Kit.ready(n);
            int[] want = new int[0];
            for (int k = 0; k < n; k++) {
                Kit.store(x, Kit.text(80, "r" + k));
                want = Kit.join(want, found());
            }
            Kit.takeAll(x);
            Kit.due(n + " records", ask(x), Kit.join(want, end()));
            Kit.due("the last of " + n, ask(x, Kit.text(80, "r" + (n - 1))),
                    Kit.join(found(Kit.text(80, "r" + (n - 1))), end()));
        }
    }

    /** "for each record that MATCHES, in their order": of coming, and a new one keeps the old place. */
    private static void theOrderOfRecords() {
        Node x = with(Kit.text(80, "c"), Kit.text(80, "a"), Kit.text(80, "b"));
        Kit.store(x, Kit.join(Kit.number(1, 1), Kit.text(80, "c")));
        Kit.takeAll(x);
        Kit.due("their names", ask(x, Kit.text(80, "")), Kit.join(found(Kit.text(80, "c")), found(Kit.text(80, "a")),
                found(Kit.text(80, "b")), end()));
        Kit.due("some of them", ask(x, Kit.text(80, "?")).length, 3 * (16 + 4 + 5) + 16);
    }

    /** "the record's elements whose tags the set has": no others, and these whole. */
    private static void elementsThatAreAsked() {
        int[] sequence = Kit.sequence(160, Kit.join(Kit.number(1, 1), Kit.text(80, "x")), Kit.text(90, "y"));
        int[] record = Kit.join(Kit.number(1, 5), Kit.text(80, "n"), Kit.text(90, "z"), sequence, Kit.sequence(161));
        Node x = with(record);
        Kit.due("the first", ask(x, Kit.number(1, 5)), Kit.join(found(Kit.number(1, 5)), end()));
        Kit.due("a text that is kept", ask(x, Kit.text(90, "*")), Kit.join(found(Kit.text(90, "z")), end()));
        Kit.due("a whole sequence", ask(x, Kit.sequence(160, Kit.text(90, ""))), Kit.join(found(sequence), end()));
        Kit.due("the last", ask(x, Kit.sequence(161)), Kit.join(found(Kit.sequence(161)), end()));
        Kit.due("all", ask(x, Kit.join(Kit.number(1, 5), Kit.text(80, ""), Kit.text(90, ""), Kit.sequence(160),
                Kit.sequence(161))), Kit.join(found(record), end()));
    }

    /** A record of 198 bytes: with the ID and the flags it makes a piece of 200. */
    private static void theLargestAnswer() {
        int[] record = Kit.bytes(5, 1, 2, 0, 1);
        int[] asked = Kit.bytes(5, 1, 2, 0, 1);
        for (int tag = 80; tag < 88; tag++) {
            record = Kit.join(record, Kit.text(tag, "abcdefghijklmnop".substring(0, tag < 87 ? 16 : 14)));
            asked = Kit.join(asked, Kit.text(tag, ""));
        }
        record = Kit.join(record, Kit.sequence(160, Kit.join(Kit.text(80, "abcdefghijklmnop"),
                Kit.text(81, "abcdefghijklmnop"))));
        Kit.due("made for 198", record.length, 198);
        Node x = with(record);
        Kit.due("all of it", ask(x, Kit.join(asked, Kit.sequence(160))), Kit.join(found(record), end()));
        Kit.due("READY", x.state(0), Kit.READY);
    }

    /** "when for each element of this the record has one of the same tag that fits" */
    private static void eachElementMustFit() {
        int[] kept = Kit.join(Kit.text(90, "a"), Kit.text(91, "b"), Kit.text(92, "c"));
        for (int place = 0; place < 3; place++) {
            int[] asked = new int[0];
            int[] wrong = new int[0];
            for (int i = 0; i < 3; i++) {
                asked = Kit.join(asked, Kit.text(90 + i, "" + (char) ('a' + i)));
                wrong = Kit.join(wrong, Kit.text(90 + i, i == place ? "z" : "" + (char) ('a' + i)));
            }
            matches("all fit", true, kept, asked);
            matches("all but " + place, false, kept, wrong);
            matches("one is missing", false, Kit.text(90 + place, ""), asked);
            matches("one is asked", true, kept, Kit.text(90 + place, ""));
        }
        matches("one more", false, kept, Kit.join(Kit.text(92, ""), Kit.text(93, "")));
        matches("a tag between", false, Kit.join(Kit.text(90, ""), Kit.text(92, "")), Kit.text(91, ""));
        matches("a number that is not there", false, kept, Kit.number(1, 0));
        matches("a sequence that is not there", false, kept, Kit.sequence(160));
    }

    /** The tenth of ten is asked like the others. */
    private static void eachOfTenElements() {
        int[] kept = new int[0];
        for (int tag = 90; tag < 99; tag++) {
            kept = Kit.join(kept, Kit.text(tag, "x"));
        }
        for (int wrong = 90; wrong <= 99; wrong++) {
            int[] asked = new int[0];
            for (int tag = 90; tag < 99; tag++) {
                asked = Kit.join(asked, Kit.text(tag, tag == wrong ? "y" : "x"));
            }
            matches("all but " + wrong, wrong == 99, kept, asked);
            matches("a name and all but " + wrong, wrong == 99, kept, Kit.join(Kit.text(80, "n"), asked));
            matches("one more", false, kept, Kit.join(asked, Kit.text(99, "")));
            matches("one alone", wrong < 99, kept, Kit.text(wrong, "x"));
        }
    }

    private static int[] emptyTexts(int syntax, int n) {
        int[] row = new int[0];
        for (int tag = 80; tag < 80 + n; tag++) {
            row = Kit.join(row, syntax == Kit.EXPLICIT ? Kit.text(tag, "") : Kit.bytes(tag, 0));
        }
        return row;
    }

    /** 200 implicit bytes, each two of them an element or an item: its last element is asked too. */
    private static void theLargestSet() {
        int[] item = Kit.join(Kit.bytes(254, 20), emptyTexts(Kit.IMPLICIT, 10));
        int[] four = Kit.join(item, item, item, item);
        int[] asked = Kit.join(Kit.bytes(160, 88), four, Kit.bytes(161, 88), four, Kit.bytes(162, 18, 254, 16),
                emptyTexts(Kit.IMPLICIT, 8));
        Kit.due("made for 200", asked.length, 200);
        for (int n = 6; n <= 9; n++) {
            int[] ten = emptyTexts(Kit.EXPLICIT, 10);
            Node x = with(Kit.join(Kit.text(80, "n"), Kit.sequence(160, ten), Kit.sequence(161, ten),
                    Kit.sequence(162, emptyTexts(Kit.EXPLICIT, n))));
            Kit.feed(x, Kit.join(Kit.command(7, 3, 6, 1), Kit.data(7, 0, java.util.Arrays.copyOf(asked, 198)),
                    Kit.data(7, 2, java.util.Arrays.copyOfRange(asked, 198, 200))));
            int[] found = Kit.join(Kit.bytes(160, 22), item, Kit.bytes(161, 22), item,
                    Kit.bytes(162, 2 * n + 2, 254, 2 * n), emptyTexts(Kit.IMPLICIT, n));
            int[] end = Kit.answer(7, 3, 6, 0, 0);
            Kit.due("a record with " + n + " of the last eight", Kit.takeAll(x),
                    n < 8 ? end : Kit.join(Kit.answer(7, 3, 6, 1, 1), Kit.set(7, found), end));
        }
    }

    /** "LENGTHS are 0 .. 240": as long as a set of 200 bytes lets them be, 198 and 196 inside. */
    private static void theLongestLengths() {
        for (int last = 10; last <= 12; last += 2) {
            int[] set = new int[0];
            for (int tag = 80; tag < 89; tag++) {
                set = Kit.join(set, Kit.bytes(tag, 16), Kit.many(16, '?'));
            }
            set = Kit.join(set, Kit.bytes(170, 22 + last, 254, 20 + last, 80, 16), Kit.many(16, 'x'),
                    Kit.bytes(81, last), Kit.many(last, 'x'));
            int[] asked = Kit.join(Kit.bytes(160, set.length + 2, 254, set.length), set);
            Kit.due("how many bytes", asked.length, 190 + last);
            Node x = Kit.ready(1);
            Kit.feed(x, Kit.join(Kit.command(7, 3, 6, 1), Kit.data(7, 0, java.util.Arrays.copyOf(asked, 100)),
                    Kit.data(7, 2, java.util.Arrays.copyOfRange(asked, 100, asked.length))));
            Kit.due("200 bytes and no fault, or too many", Kit.takeAll(x),
                    last == 10 ? Kit.answer(7, 3, 6, 0, 0) : Kit.bytes(7, 0));
        }
    }

    private static int[] four(int value) {
        return Kit.bytes(7, 1, 4, value & 255, value >> 8 & 255, value >> 16 & 255, value >> 24 & 255);
    }

    /** "a NUMBER the same number": in however many bytes. */
    private static void numbers() {
        int[] values = {0, 1, -1, 127, 128, -128, -129, 255, 256, 32767, 32768, -32768, 65535, 65536, -65536,
            Integer.MAX_VALUE, Integer.MIN_VALUE};
        for (int kept : values) {
            for (int asked : values) {
                matches(asked + " for " + kept, kept == asked, four(kept), four(asked));
            }
        }
        matches("-1 for -1", true, four(-1), Kit.bytes(7, 1, 1, 255));
        matches("255 for -1", false, four(-1), Kit.bytes(7, 1, 2, 255, 0));
    }

    private static List<String> words(String letters, int longest) {
        List<String> all = new ArrayList<>(List.of(""));
        for (int i = 0; i < all.size(); i++) {
            for (int k = 0; k < letters.length() && all.get(i).length() < longest; k++) {
                all.add(all.get(i) + letters.charAt(k));
            }
        }
        return all;
    }

    private static boolean stands(String pattern, String text) {
        if (pattern.isEmpty()) {
            return text.isEmpty();
        }
        String rest = pattern.substring(1);
        if (pattern.charAt(0) == '*') {
            return stands(rest, text) || !text.isEmpty() && stands(pattern, text.substring(1));
        }
        boolean same = !text.isEmpty() && (pattern.charAt(0) == '?' || pattern.charAt(0) == text.charAt(0));
        return same && stands(rest, text.substring(1));
    }

    /** "* stands for any characters or none, ? for just one, others for themselves" */
    private static void shortTexts() {
        for (String pattern : words("ab*?", 4)) {
            for (String text : words("ab", 4)) {
                matches("'" + pattern + "' for '" + text + "'", pattern.isEmpty() || stands(pattern, text),
                        Kit.text(90, text), Kit.text(90, pattern));
            }
        }
    }

    /** "a TEXT that matches: empty matches all" */
    private static void emptyTexts() {
        for (String text : List.of("", "a", "*", "a b", "abcdefghijklmnop")) {
            matches("nothing for '" + text + "'", true, Kit.text(90, text), Kit.text(90, ""));
            matches("'*' for '" + text + "'", true, Kit.text(90, text), Kit.text(90, "*"));
            matches("'?' for '" + text + "'", text.length() == 1, Kit.text(90, text), Kit.text(90, "?"));
            matches("'z' for '" + text + "'", false, Kit.text(90, text), Kit.text(90, "z"));
        }
    }

    /** All codes that a text may have; in a record * and ? are nothing but characters. */
    private static void eachCharacter() {
        for (char c = 32; c <= 126; c++) {
            boolean isJoker = c == '*' || c == '?';
            matches("'" + c + "' for itself", true, Kit.text(90, "x" + c + "y"), Kit.text(90, "x" + c + "y"));
            matches("'" + c + "' for another", isJoker, Kit.text(90, "x" + (char) (c == 126 ? 32 : c + 1) + "y"),
                    Kit.text(90, "x" + c + "y"));
            matches("a joker for '" + c + "'", true, Kit.text(90, "x" + c + "y"), Kit.text(90, "x?y"));
            matches("another one for '" + c + "'", true, Kit.text(90, "x" + c + "y"), Kit.text(90, "x*y"));
            matches("a letter for '" + c + "'", c == 'q', Kit.text(90, "x" + c + "y"), Kit.text(90, "xqy"));
        }
    }

    /** Sixteen characters on both sides. */
    private static void longTexts() {
        String text = "abcdefghijklmnop";
        String[] patterns = {text, "????????????????", "****************", "*p", "a*", "a*p", "*bcdefghijklmnop",
            "abcdefghijklmno*", "abcdefgh*jklmnop", "?*?*?*?*?*?*?*?*", "*?*?*?*?*?*?*?*?"};
        for (String pattern : patterns) {
            matches("'" + pattern + "'", true, Kit.text(90, text), Kit.text(90, pattern));
        }
        matches("15 jokers", false, Kit.text(90, text), Kit.text(90, "???????????????"));
        matches("16 jokers for 15", false, Kit.text(90, "abcdefghijklmno"), Kit.text(90, "????????????????"));
        matches("another last one", false, Kit.text(90, text), Kit.text(90, "abcdefghijklmnoq"));
        matches("another first one", false, Kit.text(90, text), Kit.text(90, "bbcdefghijklmnop"));
        matches("one fewer", false, Kit.text(90, text), Kit.text(90, "abcdefghijklmno"));
        matches("one more", false, Kit.text(90, "abcdefghijklmno"), Kit.text(90, text));
        matches("many ways", false, Kit.text(90, "aaaaaaaaaaaaaaaa"), Kit.text(90, "*a*a*a*a*a*a*a*b"));
    }

    /** "a SEQUENCE: without items always" */
    private static void sequencesWithoutItems() {
        matches("for none", true, Kit.sequence(160), Kit.sequence(160));
        matches("for one", true, Kit.sequence(160, Kit.number(1, 1)), Kit.sequence(160));
        matches("for four", true, Kit.sequence(160, Kit.bytes(), Kit.bytes(), Kit.bytes(), Kit.bytes()),
                Kit.sequence(160));
        matches("an open one", true, Kit.sequence(160, Kit.number(1, 1)), Kit.bytes(160, 3, 255, 252));
        matches("an empty item for none", false, Kit.sequence(160), Kit.sequence(160, Kit.bytes()));
        matches("an empty item for an empty one", true, Kit.sequence(160, Kit.bytes()), Kit.sequence(160, Kit.bytes()));
        matches("an empty item for any", true, Kit.sequence(160, Kit.number(1, 1)), Kit.sequence(160, Kit.bytes()));
        matches("an item for an empty one", false, Kit.sequence(160, Kit.bytes()), Kit.sequence(160, Kit.number(1, 1)));
    }

    /** "one of the record's items matches its first one" */
    private static void theFirstItemOnly() {
        int[] kept = Kit.sequence(160, Kit.number(1, 1), Kit.number(1, 2));
        for (int others = 0; others <= 3; others++) {
            int[][] asked = new int[others + 1][];
            asked[0] = Kit.number(1, 2);
            int[][] late = new int[others + 1][];
            late[0] = Kit.number(1, 3);
            for (int i = 1; i <= others; i++) {
                asked[i] = Kit.number(1, 3);
                late[i] = Kit.number(1, 1);
            }
            matches("the first of " + (others + 1), true, kept, Kit.sequence(160, asked));
            matches("not the first of " + (others + 1), false, kept, Kit.sequence(160, late));
        }
        matches("an empty first item", true, kept, Kit.sequence(160, Kit.bytes(), Kit.number(1, 3)));
    }

    private static void anyItemOfTheRecord() {
        for (int n = 1; n <= 4; n++) {
            int[][] items = new int[n][];
            for (int i = 0; i < n; i++) {
                items[i] = Kit.number(1, i);
            }
            for (int asked = 0; asked <= n; asked++) {
                matches(asked + " of " + n, asked < n, Kit.sequence(160, items), Kit.sequence(160, Kit.number(1, asked)));
            }
        }
    }

    /** "(as a set)": each of its elements, all in one item. */
    private static void itemsAreMatchedAsSets() {
        int[] kept = Kit.sequence(160, Kit.join(Kit.number(1, 1), Kit.text(90, "a")),
                Kit.join(Kit.number(1, 2), Kit.text(90, "b"), Kit.text(91, "c")));
        matches("both of the first", true, kept, Kit.sequence(160, Kit.join(Kit.number(1, 1), Kit.text(90, "a"))));
        matches("both of the second", true, kept, Kit.sequence(160, Kit.join(Kit.number(1, 2), Kit.text(90, "?"))));
        matches("one of each", false, kept, Kit.sequence(160, Kit.join(Kit.number(1, 1), Kit.text(90, "b"))));
        matches("one that no item has", false, kept, Kit.sequence(160, Kit.text(92, "")));
        matches("one of the second alone", true, kept, Kit.sequence(160, Kit.text(91, "")));
        matches("the other sequence", false, Kit.join(kept, Kit.sequence(161)),
                Kit.sequence(161, Kit.number(1, 1)));
    }

    private static void sequencesInSequences() {
        int[] kept = Kit.sequence(160, Kit.sequence(170, Kit.text(90, "a")),
                Kit.sequence(170, Kit.text(90, "b"), Kit.join(Kit.number(1, 9), Kit.text(90, "c"))));
        matches("in the first item", true, kept, Kit.sequence(160, Kit.sequence(170, Kit.text(90, "a"))));
        matches("in the second one", true, kept, Kit.sequence(160, Kit.sequence(170, Kit.text(90, "c"))));
        matches("in none", false, kept, Kit.sequence(160, Kit.sequence(170, Kit.text(90, "d"))));
        matches("without items inside", true, kept, Kit.sequence(160, Kit.sequence(170)));
        matches("only the first inside", true, kept,
                Kit.sequence(160, Kit.sequence(170, Kit.number(1, 9), Kit.text(90, "d"))));
        matches("not the second inside", false, kept,
                Kit.sequence(160, Kit.sequence(170, Kit.text(90, "d"), Kit.text(90, "a"))));
        matches("another tag inside", false, kept, Kit.sequence(160, Kit.sequence(171)));
        matches("an empty item for no item inside", false, Kit.sequence(160, Kit.sequence(170)),
                Kit.sequence(160, Kit.sequence(170, Kit.bytes())));
    }
}
