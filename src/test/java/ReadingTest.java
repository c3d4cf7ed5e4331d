/** Promises 6 to 12: read, some, full, skip, number, text and line. */
public final class ReadingTest {
    private static final String WRONG = "throws.IllegalArgumentException";
    private static final String BROKEN = "throws.IllegalStateException";
    private static final String ENDED = "throws.NoSuchElementException";

    public static void main(String[] args) {
        Runs t = new Runs();
        read(t);
        some(t);
        full(t);
        skip(t);
        number(t);
        text(t);
        letters(t);
        line(t);
        leftOut(t);
        t.end();
    }

    private static void read(Runs t) {
        t.run("6: a byte, the end, a broken place",
            "feed(0x00FF, 2) -> 2", "read() -> 0", "bag 0", "read() -> 255", "bag 255", "read() -> -1", "bag",
            "feed(1, 1) -> 3", "breakAt(2) -> true", "read() -> " + BROKEN, "bag");
        t.run("6: a read that throws or ends empties the bag",
            "feed(7, 1) -> 1", "breakAt(1) -> true", "read() -> 7", "bag 7", "read() -> " + BROKEN, "bag");
    }

    private static void some(Runs t) {
        t.run("7: how many came",
            "feed(0x010203, 3) -> 3", "some(2) -> 2", "bag 1 2", "some(2) -> 1", "bag 3", "some(2) -> -1", "bag");
        t.run("7: wrong numbers empty the bag, too",
            "feed(0x0102, 2) -> 2", "some(1) -> 1", "some(0) -> " + WRONG, "bag", "some(61) -> " + WRONG,
            "some(-1) -> " + WRONG, "some(-2147483648) -> " + WRONG, "some(2147483647) -> " + WRONG,
            "about(-1) -> 1", "some(1) -> 1", "bag 2");
        t.run("7: 60 at the most", Runs.fed(7, 61, "some(60) -> 60", "size(false) -> 60", "some(60) -> 1"));
        t.run("7: wrong before broken", "breakAt(0) -> true", "some(0) -> " + WRONG, "some(1) -> " + BROKEN);
    }

    private static void full(Runs t) {
        t.run("8: again and again over portions",
            "feed(1, 1) -> 1", "portion() -> done", "feed(0x0203, 2) -> 3", "portion() -> done",
            "feed(0x0405, 2) -> 5", "full(4) -> done", "bag 1 2 3 4", "about(-1) -> 4", "full(0) -> done", "bag");
        t.run("8: only so many as are missing are asked for",
            "feed(0x0102, 2) -> 2", "portion() -> done", "feed(0x03040506, 4) -> 6", "push(1, 4) -> 0",
            "full(3) -> done", "about(0) -> 3", "about(-1) -> 6");
        t.run("8: what is missing may go below as it is",
            "feed(0x0102, 2) -> 2", "portion() -> done", "feed(0x03040506, 4) -> 6", "push(1, 2) -> 0",
            "full(5) -> done", "about(0) -> 0", "about(-1) -> 5");
        t.run("8: the end, with what came before in the bag",
            "feed(0x0102, 2) -> 2", "full(3) -> " + ENDED, "bag 1 2", "about(-1) -> 2", "full(1) -> " + ENDED, "bag",
            "full(0) -> done");
        t.run("8: a broken place, with what came before in the bag",
            "feed(0x0102, 2) -> 2", "portion() -> done", "feed(3, 1) -> 3", "breakAt(2) -> true",
            "full(3) -> " + BROKEN, "bag 1 2", "full(0) -> done", "full(1) -> " + BROKEN, "bag");
        t.run("8: wrong numbers",
            "feed(1, 1) -> 1", "read() -> 1", "full(-1) -> " + WRONG, "bag", "full(61) -> " + WRONG,
            "full(-2147483648) -> " + WRONG, "full(2147483647) -> " + WRONG, "breakAt(1) -> true",
            "full(61) -> " + WRONG);
        t.run("8: 60 at the most", Runs.fed(7, 61, "full(60) -> done", "size(false) -> 60", "full(2) -> " + ENDED));
    }

    private static void skip(Runs t) {
        t.run("9: nothing comes into the bag",
            "feed(1, 1) -> 1", "portion() -> done", "feed(0x020304, 3) -> 4", "read() -> 1", "skip(2) -> 2", "bag",
            "read() -> 4", "skip(0) -> 0", "bag");
        t.run("9: only so many as are missing are asked for",
            "feed(0x0102, 2) -> 2", "portion() -> done", "feed(0x03040506, 4) -> 6", "skip(3) -> 3",
            "about(-1) -> 3", "skip(2) -> 2", "about(-1) -> 5");
        t.run("9: no request when none are missing",
            "feed(0x0102, 2) -> 2", "breakAt(2) -> true", "skip(2) -> 2", "skip(0) -> 0");
        t.run("9: the end",
            "feed(0x0102, 2) -> 2", "skip(9) -> 2", "skip(9) -> 0", "skip(0) -> 0");
        t.run("9: a broken place, some before and none before",
            "feed(1, 1) -> 1", "portion() -> done", "feed(2, 1) -> 2", "breakAt(1) -> true", "skip(2) -> 1",
            "skip(1) -> " + BROKEN, "skip(0) -> 0", "about(-1) -> 1", "breakAt(-1) -> true", "skip(1) -> 1");
        t.run("9: wrong numbers",
            "feed(1, 1) -> 1", "read() -> 1", "skip(-1) -> " + WRONG, "bag", "skip(121) -> " + WRONG,
            "skip(-2147483648) -> " + WRONG, "skip(2147483647) -> " + WRONG, "breakAt(1) -> true",
            "skip(121) -> " + WRONG);
        t.run("9: 120 at the most", Runs.fed(7, 120, "skip(120) -> 120", "bag", "skip(120) -> 0"));
    }

    private static void number(Runs t) {
        t.run("10: the first byte is the highest",
            "feed(0x01020304, 4) -> 4", "feed(-1, 4) -> 8", "number(1) -> 1", "bag 1", "number(3) -> 131844",
            "bag 2 3 4", "number(4) -> 4294967295");
        t.run("10: seven bytes are not negative, eight may be",
            "feed(-1, 4) -> 4", "feed(-1, 4) -> 8", "feed(-1, 4) -> 12", "feed(-2, 3) -> 15",
            "number(7) -> 72057594037927935", "number(8) -> -2", "size(false) -> 8");
        t.run("10: eight bytes that are not negative",
            "feed(0x7FFFFFFF, 4) -> 4", "feed(-1, 4) -> 8", "feed(0x80000000, 4) -> 12", "feed(0, 4) -> 16",
            "number(8) -> 9223372036854775807", "number(8) -> -9223372036854775808");
        t.run("10: over portions, to the end and a broken place",
            "feed(1, 1) -> 1", "portion() -> done", "feed(0x0203, 2) -> 3", "number(2) -> 258",
            "number(2) -> " + ENDED, "bag 3", "breakAt(3) -> true", "number(1) -> " + BROKEN, "bag");
        t.run("10: wrong numbers",
            "feed(1, 1) -> 1", "read() -> 1", "number(0) -> " + WRONG, "bag", "number(9) -> " + WRONG,
            "number(-1) -> " + WRONG, "number(-2147483648) -> " + WRONG, "number(2147483647) -> " + WRONG,
            "breakAt(1) -> true", "number(0) -> " + WRONG);
    }

    private static void text(Runs t) {
        t.run("11: the length and the bytes come into the bag",
            "feed(0x00026162, 4) -> 4", "feed(0x0000, 2) -> 6", "text() -> 2", "bag 0 2 97 98", "letters 97 98",
            "text() -> 0", "bag 0 0", "letters", "text() -> " + ENDED, "bag", "letters");
        t.run("11: the letters stay over other calls and texts that throw",
            "feed(0x000161, 3) -> 3", "text() -> 1", "feed(0x000180, 3) -> 6", "text() -> " + WRONG, "bag 0 1 128",
            "letters 97", "feed(0x00, 1) -> 7", "text() -> " + ENDED, "bag 0", "letters 97", "feed(0x000362, 3) -> 10",
            "text() -> " + ENDED, "bag 0 3 98", "letters 97", "line() -> -1", "letters 97", "breakAt(10) -> true",
            "text() -> " + BROKEN, "letters 97");
        t.run("11: a broken place in the length and in the bytes",
            "feed(0x00, 1) -> 1", "portion() -> done", "feed(0x02, 1) -> 2", "portion() -> done",
            "feed(0x6162, 2) -> 4", "breakAt(1) -> true", "text() -> " + BROKEN, "bag 0", "breakAt(-1) -> true",
            "feed(0x63, 1) -> 5", "breakAt(4) -> true", "number(1) -> 2");
        t.run("11: broken behind the length",
            "feed(0x0002, 2) -> 2", "portion() -> done", "feed(0x6162, 2) -> 4", "breakAt(2) -> true",
            "text() -> " + BROKEN, "bag 0 2");
        t.run("11: a number of more than 118 throws before the bytes are read",
            "feed(0x00776162, 4) -> 4", "text() -> " + WRONG, "bag 0 119", "about(-1) -> 2", "feed(-1, 2) -> 6",
            "skip(2) -> 2", "text() -> " + WRONG, "bag 255 255", "feed(0x0100, 2) -> 8", "text() -> " + WRONG,
            "breakAt(8) -> true", "text() -> " + BROKEN);
        String[] length = {"feed(0x00, 1) -> 1", "feed(118, 1) -> 2"};
        t.run("11: 118 bytes", Runs.rows(length, Runs.fedBehind(2, 65, 118),
            "text() -> 118", "size(true) -> 118", "size(false) -> 120", "at(117, true) -> 65",
            "at(119, false) -> 65", "at(118, true) -> -1"));
    }

    private static void letters(Runs t) {
        t.run("11: the least and the greatest letter of each width",
            "feed(0x000C, 2) -> 2", "feed(0x007F, 2) -> 4", "feed(0xC080, 2) -> 6", "feed(0xDFBF, 2) -> 8",
            "feed(0xE08080, 3) -> 11", "feed(0xEFBFBF, 3) -> 14", "text() -> 6", "letters 0 127 0 2047 0 65535");
        t.run("11: every bit of a letter",
            "feed(0x0008, 2) -> 2", "feed(0xD5AA, 2) -> 4", "feed(0xE595AA, 3) -> 7", "feed(0xEDA080, 3) -> 10",
            "text() -> 3", "letters 1386 21866 55296");
        String[] wrong = {
            "0x80", "0xBF", "0xC0", "0xE0", "0xF0", "0xF8", "0xFF",
            "0xC041", "0xC0C0", "0xDF7F", "0xE080", "0x41C3", "0x4180", "0xC3FF",
            "0xE04180", "0xE08041", "0xE0C080", "0xE080C0", "0xEF80FF", "0xC38080", "0x41E080", "0xF08080"};
        for (String bytes : wrong) {
            int n = (bytes.length() - 2) / 2;
            t.run("11: no letters " + bytes,
                "feed(" + n + ", 2) -> 2", "feed(" + bytes + ", " + n + ") -> " + (n + 2), "text() -> " + WRONG,
                "size(false) -> " + (n + 2), "letters");
        }
        t.run("11: a letter ends with the text, not with the source",
            "feed(0x0001C380, 4) -> 4", "text() -> " + WRONG, "bag 0 1 195", "read() -> 128");
    }

    private static void line(Runs t) {
        t.run("12: up to 10, 13 or the end",
            "feed(0x61620A63, 4) -> 4", "feed(0x0D64, 2) -> 6", "line() -> 2", "bag 97 98", "line() -> 1", "bag 99",
            "line() -> 1", "bag 100", "line() -> -1", "bag");
        t.run("12: empty lines",
            "feed(0x0A0A0D0D, 4) -> 4", "line() -> 0", "line() -> 0", "line() -> 0", "line() -> 0", "line() -> -1");
        t.run("12: over portions, and a broken place",
            "feed(0x61, 1) -> 1", "portion() -> done", "feed(0x620A, 2) -> 3", "line() -> 2",
            "feed(0x6364, 2) -> 5", "breakAt(5) -> true", "line() -> " + BROKEN, "bag 99 100", "about(-1) -> 5",
            "line() -> " + BROKEN, "bag", "breakAt(-1) -> true", "line() -> -1");
        t.run("12: a broken place among the bytes stops a line that reads one by one",
            "feed(0x616263, 3) -> 3", "breakAt(1) -> true", "line() -> " + BROKEN, "bag 97");
        t.run("12: all the source", Runs.fed(65, 120, "line() -> 120", "at(119, false) -> 65", "line() -> -1"));
    }

    private static void leftOut(Runs t) {
        t.run("a 10 behind a line that ended with 13 is left out, once",
            "feed(0x0D0A0A61, 4) -> 4", "line() -> 0", "read() -> 10", "read() -> 97");
        t.run("another first byte ends the waiting",
            "feed(0x0D610A62, 4) -> 4", "line() -> 0", "read() -> 97", "read() -> 10", "read() -> 98");
        t.run("some: the others with it",
            "feed(0x0D0A6162, 4) -> 4", "line() -> 0", "some(3) -> 2", "bag 97 98");
        t.run("some: another request of as many when there are no others",
            "feed(0x0D0A, 2) -> 2", "portion() -> done", "feed(0x0A6162, 3) -> 5", "line() -> 0", "some(3) -> 3",
            "bag 10 97 98");
        t.run("full and number: so many more as are missing",
            "feed(0x0D0A6162, 4) -> 4", "feed(0x0D0A0102, 4) -> 8", "line() -> 0", "full(2) -> done", "bag 97 98",
            "line() -> 0", "number(2) -> 258");
        t.run("skip: not counted",
            "feed(0x0D0A6162, 4) -> 4", "line() -> 0", "skip(2) -> 2", "about(-1) -> 4");
        t.run("skip: only the 10, then a broken place",
            "feed(0x0D0A, 2) -> 2", "portion() -> done", "feed(0x0A61, 2) -> 4", "breakAt(2) -> true", "line() -> 0",
            "skip(2) -> " + BROKEN, "about(-1) -> 2", "breakAt(-1) -> true", "read() -> 10");
        t.run("text: before its length",
            "feed(0x0D0A0001, 4) -> 4", "feed(0x61, 1) -> 5", "line() -> 0", "text() -> 1", "bag 0 1 97");
        t.run("line: only the 10, then the end",
            "feed(0x0D0A, 2) -> 2", "line() -> 0", "line() -> -1", "about(-1) -> 2", "feed(10, 1) -> 3", "line() -> 0");
        t.run("the end, a failed request and calls of no bytes do not end the waiting",
            "feed(13, 1) -> 1", "line() -> 0", "line() -> -1", "read() -> -1", "full(0) -> done", "skip(0) -> 0",
            "some(0) -> " + WRONG, "breakAt(1) -> true", "read() -> " + BROKEN, "breakAt(-1) -> true",
            "feed(0x0A61, 2) -> 3", "available() -> 2", "read() -> 97");
        t.run("only a line waits for 10, and not one that ended with 10",
            "feed(0x0D0A0A0A, 4) -> 4", "read() -> 13", "line() -> 0", "read() -> 10", "read() -> 10");
        t.run("what the top answers counts, also what was put back",
            "feed(0x0D61, 2) -> 2", "push(2, 1) -> 0", "line() -> 0", "unread(10) -> done", "read() -> 97");
        t.run("what the top answers counts, also through a new CODE",
            "feed(0x0D0A0B61, 4) -> 4", "line() -> 0", "push(4, 1) -> 0", "read() -> 11", "about(0) -> 1");
        t.run("what a new CODE makes 10 is left out",
            "feed(0x0D0B61, 3) -> 3", "line() -> 0", "push(4, 1) -> 0", "read() -> 99", "about(0) -> 2");
    }
}
