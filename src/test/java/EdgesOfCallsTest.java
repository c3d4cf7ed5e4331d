/** What the document's sentences say at their edges: requests that fail, what is left out, the bag, closed, throwing. */
public final class EdgesOfCallsTest {
    private static final String WRONG = "throws.IllegalArgumentException";
    private static final String STATE = "throws.IllegalStateException";
    private static final String CAN_NOT = "throws.UnsupportedOperationException";
    private static final String ENDED = "throws.NoSuchElementException";

    private static final String[] READING = {"read()", "some(1)", "full(1)", "skip(1)", "number(1)", "text()",
        "line()"};
    private static final String[] READING_WRONG = {"some(0)", "some(61)", "full(-1)", "full(61)", "skip(-1)",
        "skip(121)", "number(0)", "number(9)"};
    private static final String[] NOT_READING = {"feed(1, 1)", "feed(1, 0)", "portion()", "breakAt(0)", "breakAt(121)",
        "push(2, 1)", "push(0, 0)", "mark(1)", "mark(33)", "reset()", "unread(1)", "unread(256)", "available()",
        "close()", "about(0)", "size(false)", "size(true)", "at(0, false)", "at(0, true)"};

    public static void main(String[] args) {
        Runs t = new Runs();
        answered(t);
        failing(t);
        failingBuffer(t);
        leftOutOfRead(t);
        leftOutOfMany(t);
        leftOutOfText(t);
        leftOutOfLine(t);
        notLeftOut(t);
        stillLeftOut(t);
        nothingBehindIt(t);
        bag(t);
        emptied(t);
        closed(t);
        firstOfAll(t);
        namedFirst(t);
        longRun(t);
        t.end();
    }

    private static void answered(Runs t) {
        String[] bytes = {"feed(0x010203, 3) -> 3"};
        String[] layers = {"push(1, 1) -> 0", "push(2, 1) -> 0", "push(3, 9) -> 0", "push(4, 0) -> 0",
            "push(5, 0) -> 0"};
        t.says("Terms", "A REQUEST of n bytes (n is 1 at least) to a layer or the source is ANSWERED with 1 to n bytes, "
            + "or none, which means THE END");
        for (String layer : Runs.rows("about(0) -> -1", layers)) {
            t.run("n 1, " + layer, Runs.rows(bytes, layer, "some(1) -> 1", "about(-1) -> 1"));
            t.run("n one less than there is, " + layer, Runs.rows(bytes, layer, "some(2) -> 2", "about(-1) -> 2"));
            t.run("n as there is, " + layer, Runs.rows(bytes, layer, "some(3) -> 3", "some(1) -> -1"));
            t.run("n one more than there is, " + layer, Runs.rows(bytes, layer, "some(4) -> 3", "some(1) -> -1"));
            t.run("no request of none, " + layer, Runs.rows(bytes, layer, "breakAt(0) -> true", "full(0) -> done",
                "skip(0) -> 0", "about(-1) -> 0"));
        }
        t.says("Terms", "BELOW means the layer below, or the source.");
        t.run("a CODE over a CODE over a BUFFER", "feed(0x00000000, 4) -> 4", "push(1, 4) -> 0", "read() -> 0",
            "push(4, 1) -> 1", "read() -> 1", "push(4, 16) -> 2", "some(9) -> 2", "bag 18 18", "about(0) -> 0",
            "about(1) -> 3", "about(2) -> 2");
        t.run("a LIMIT over a PUSHBACK over a LIMIT", Runs.rows(bytes, "push(3, 1) -> 0", "push(2, 1) -> 1",
            "unread(9) -> done", "push(3, 9) -> 2", "full(2) -> done", "bag 9 1", "read() -> -1", "about(0) -> 0",
            "about(2) -> 7"));
    }

    private static void failing(Runs t) {
        t.says("Terms", "or it FAILS; then nothing is changed, in no layer");
        String[] bytes = {"feed(0x0D0A0D0A, 4) -> 4", "feed(0x01020304, 4) -> 8"};
        String[] layers = {"push(1, 2)", "push(2, 2)", "push(3, 9)", "push(4, 254)", "push(5, 0)"};
        for (String call : new String[] {"read()", "some(1)", "some(60)", "full(1)", "full(60)", "skip(1)", "skip(120)",
            "number(1)", "number(8)", "text()", "line()"}) {
            String fails = call + " -> " + STATE;
            t.unchanged("the source, " + call, fails, Runs.rows(bytes, "some(1) -> 1", "breakAt(1) -> true"));
            for (String layer : layers) {
                t.unchanged(layer + " that is new, " + call, fails, Runs.rows(bytes, layer + " -> 0",
                    "breakAt(0) -> true"));
                t.unchanged(layer + " that was used, " + call, fails, Runs.rows(bytes, layer + " -> 0", "some(1) -> 1",
                    "some(1) -> 1", "breakAt(2) -> true"));
                t.unchanged("all kinds under " + layer + ", " + call, fails, Runs.rows(bytes, "push(5, 0) -> 0",
                    "push(4, 3) -> 1", "push(3, 8) -> 2", "push(1, 2) -> 3", layer + " -> 4", "some(1) -> 1",
                    "some(1) -> 1", "breakAt(2) -> true"));
            }
        }
    }

    private static void failingBuffer(Runs t) {
        t.says("Terms", "or it FAILS; then nothing is changed, in no layer");
        String[] marked = {"feed(0x01020304, 4) -> 4", "push(1, 2) -> 0", "mark(2) -> done", "some(2) -> 2",
            "breakAt(2) -> true"};
        t.unchanged("a mark whose limit is reached", "some(1) -> " + STATE, marked);
        t.unchanged("a mark whose limit is reached, of more", "some(60) -> " + STATE, marked);
        t.run("a mark whose limit is reached stays", Runs.rows(marked, "read() -> " + STATE, "reset() -> done",
            "some(9) -> 2", "bag 1 2", "breakAt(-1) -> true", "read() -> 3", "reset() -> " + STATE));
        t.unchanged("a 10 would be left out", "read() -> " + STATE, "feed(0x0D0A61, 3) -> 3", "line() -> 0",
            "breakAt(1) -> true");
        t.run("what a call got before is not given back", "feed(0x0102, 2) -> 2", "push(3, 9) -> 0",
            "breakAt(2) -> true", "full(3) -> " + STATE, "about(0) -> 7", "about(-1) -> 2");
    }

    /** The bytes are read by answers of their own behind a line that ended with 13. */
    private static String[] behind13(String... rest) {
        return Runs.rows("feed(13, 1) -> 1", "line() -> 0", "portion() -> done", rest);
    }

    private static void leftOutOfRead(Runs t) {
        t.says("Terms", "the first byte that is answered is left out if it is 10 (and nothing behind it, "
            + "whatever comes then); if there are no others with it, there is another request");
        t.run("read", behind13("feed(0x0A61, 2) -> 3", "read() -> 97", "bag 97", "about(-1) -> 3"));
        t.run("read of two 10", behind13("feed(0x0A0A, 2) -> 3", "read() -> 10", "bag 10", "read() -> -1"));
        t.run("read over portions", behind13("feed(0x0A, 1) -> 2", "portion() -> done", "feed(0x61, 1) -> 3",
            "read() -> 97"));
        t.run("read, then the end", behind13("feed(0x0A, 1) -> 2", "read() -> -1", "bag", "about(-1) -> 2"));
        t.run("read, then a failure", behind13("feed(0x0A, 1) -> 2", "breakAt(2) -> true", "read() -> " + STATE, "bag",
            "about(-1) -> 2"));
        t.run("read of 9", behind13("feed(9, 1) -> 2", "read() -> 9"));
        t.run("read of 11", behind13("feed(11, 1) -> 2", "read() -> 11"));
        t.run("read of 13", behind13("feed(13, 1) -> 2", "read() -> 13"));
    }

    private static void leftOutOfMany(Runs t) {
        t.says("Terms", "if there are no others with it, there is another request");
        t.run("some, one other with it", behind13("feed(0x0A6162, 3) -> 4", "some(2) -> 1", "bag 97", "some(2) -> 1"));
        t.run("some, no other with it by n", behind13("feed(0x0A6162, 3) -> 4", "some(1) -> 1", "bag 97"));
        t.run("some, no other with it by a portion", behind13("feed(0x0A, 1) -> 2", "portion() -> done",
            "feed(0x616263, 3) -> 5", "some(2) -> 2", "bag 97 98"));
        t.run("some, then the end", behind13("feed(0x0A, 1) -> 2", "some(2) -> -1", "bag"));
        t.run("some, then a failure", behind13("feed(0x0A, 1) -> 2", "breakAt(2) -> true", "some(2) -> " + STATE,
            "bag"));
        t.run("some of 60 with it", Runs.rows(behind13("feed(0x0A, 1) -> 2"), Runs.fedBehind(2, 7, 60),
            "some(60) -> 59", "some(60) -> 1"));
        t.run("full, others with it", behind13("feed(0x0A6162, 3) -> 4", "full(2) -> done", "bag 97 98"));
        t.run("full, no other with it", behind13("feed(0x0A61, 2) -> 3", "full(1) -> done", "bag 97"));
        t.run("full, then the end", behind13("feed(0x0A61, 2) -> 3", "full(2) -> " + ENDED, "bag 97"));
        t.run("full, then the end at once", behind13("feed(0x0A, 1) -> 2", "full(1) -> " + ENDED, "bag"));
        t.run("full, then a failure", behind13("feed(0x0A61, 2) -> 3", "breakAt(3) -> true", "full(2) -> " + STATE,
            "bag 97"));
        t.run("full of 60", Runs.rows(behind13("feed(0x0A, 1) -> 2"), Runs.fedBehind(2, 7, 60), "full(60) -> done",
            "size(false) -> 60", "read() -> -1"));
        t.run("skip, others with it", behind13("feed(0x0A616263, 4) -> 5", "skip(2) -> 2", "read() -> 99"));
        t.run("skip, then the end", behind13("feed(0x0A61, 2) -> 3", "skip(2) -> 1"));
        t.run("skip, then the end at once", behind13("feed(0x0A, 1) -> 2", "skip(1) -> 0", "about(-1) -> 2"));
        t.run("skip, then a failure", behind13("feed(0x0A61, 2) -> 3", "breakAt(3) -> true", "skip(2) -> 1"));
        t.run("skip of 120", Runs.rows(behind13("feed(0x0A, 1) -> 2"), Runs.fedBehind(2, 7, 118), "skip(120) -> 118"));
        t.run("skip of 120 with it in one answer", Runs.rows("feed(0x0A, 1) -> 1", Runs.fedBehind(1, 7, 119),
            "push(2, 1) -> 0", "unread(13) -> done", "line() -> 0", "skip(120) -> 119", "about(-1) -> 120"));
        t.run("number", behind13("feed(0x0A0102, 3) -> 4", "number(2) -> 258", "bag 1 2"));
        t.run("number of one byte", behind13("feed(0x0A0A, 2) -> 3", "number(1) -> 10"));
        t.run("number of eight", behind13("feed(0x0A, 1) -> 2", "feed(-1, 4) -> 6", "feed(-1, 4) -> 10",
            "number(8) -> -1"));
        t.run("number, then the end", behind13("feed(0x0A01, 2) -> 3", "number(2) -> " + ENDED, "bag 1"));
    }

    private static void leftOutOfText(Runs t) {
        t.says("Terms", "the first byte that is answered is left out if it is 10 (and nothing behind it");
        t.run("before a text", behind13("feed(0x0A000161, 4) -> 5", "text() -> 1", "bag 0 1 97", "letters 97"));
        t.run("not behind its length", behind13("feed(0x00020A0A, 4) -> 5", "text() -> 2", "bag 0 2 10 10",
            "letters 10 10"));
        t.run("before a text of none", behind13("feed(0x0A0000, 3) -> 4", "text() -> 0", "bag 0 0", "about(-1) -> 4"));
        t.run("a text that ends in its length", behind13("feed(0x0A00, 2) -> 3", "text() -> " + ENDED, "bag 0"));
        t.run("a length whose first byte is 10", "feed(0x0A000161, 4) -> 4", "text() -> " + WRONG, "bag 10 0");
    }

    private static void leftOutOfLine(Runs t) {
        t.says("Terms", "But when a line ended with 13");
        t.run("the next line", behind13("feed(0x0A610A, 3) -> 4", "line() -> 1", "bag 97", "line() -> -1"));
        t.run("the next line is empty", behind13("feed(0x0A0A61, 3) -> 4", "line() -> 0", "bag", "read() -> 97"));
        t.run("the next line ends with 13, too", behind13("feed(0x0A0D0A61, 4) -> 5", "line() -> 0", "read() -> 97"));
        t.run("13 behind 13", behind13("feed(0x0D0A61, 3) -> 4", "line() -> 0", "read() -> 97"));
        t.run("then the end", behind13("feed(0x0A, 1) -> 2", "line() -> -1", "bag", "about(-1) -> 2"));
        t.run("then a failure", behind13("feed(0x0A, 1) -> 2", "breakAt(2) -> true", "line() -> " + STATE, "bag",
            "about(-1) -> 2"));
        t.run("a line of bytes ended with 13", "feed(0x610D0A62, 4) -> 4", "line() -> 1", "read() -> 98");
        t.run("a line of 118 bytes ended with 13", Runs.rows(Runs.fed(65, 118), "feed(0x0D0A, 2) -> 120",
            "line() -> 118", "line() -> -1", "about(-1) -> 120"));
    }

    private static void notLeftOut(Runs t) {
        t.says("Terms", "But when a line ended with 13");
        t.run("a line ended with 10", "feed(0x0A0A, 2) -> 2", "line() -> 0", "read() -> 10");
        t.run("a line ended with the end", "feed(0x61, 1) -> 1", "line() -> 1", "feed(10, 1) -> 2", "read() -> 10");
        t.run("a line that failed", "feed(0x61, 1) -> 1", "breakAt(1) -> true", "line() -> " + STATE,
            "breakAt(-1) -> true", "feed(10, 1) -> 2", "read() -> 10");
        t.run("no line yet", "line() -> -1", "feed(10, 1) -> 1", "read() -> 10");
        t.run("13 was read", "feed(0x0D0A, 2) -> 2", "read() -> 13", "read() -> 10");
        t.run("13 came to some", "feed(0x0D0A, 2) -> 2", "some(1) -> 1", "read() -> 10");
        t.run("13 and 10 came to some", "feed(0x0D0A, 2) -> 2", "some(2) -> 2", "bag 13 10");
        t.run("13 came to full", "feed(0x0D0A, 2) -> 2", "full(1) -> done", "read() -> 10");
        t.run("13 was skipped", "feed(0x0D0A, 2) -> 2", "skip(1) -> 1", "read() -> 10");
        t.run("13 came to number", "feed(0x0D0A, 2) -> 2", "number(1) -> 13", "read() -> 10");
        t.run("13 came to text", "feed(0x00010D0A, 4) -> 4", "text() -> 1", "read() -> 10");
        t.says("Terms", "and no byte was answered to a call since");
        for (String call : new String[] {"read() -> 97", "some(1) -> 1", "full(1) -> done", "skip(1) -> 1",
            "number(1) -> 97"}) {
            t.run("a byte since: " + call, "feed(0x0D610A, 3) -> 3", "line() -> 0", call, "read() -> 10");
        }
        t.run("a byte since: line", "feed(0x0D610A0A, 4) -> 4", "line() -> 0", "line() -> 1", "read() -> 10");
        t.run("a byte since: text", "feed(0x0D00000A, 4) -> 4", "line() -> 0", "text() -> 0", "read() -> 10");
        t.run("a byte since, of a call that threw", "feed(0x0D61, 2) -> 2", "line() -> 0", "full(2) -> " + ENDED,
            "feed(10, 1) -> 3", "read() -> 10");
    }

    private static void stillLeftOut(Runs t) {
        t.says("Terms", "and no byte was answered to a call since");
        String[] ended = {"read() -> -1", "some(60) -> -1", "full(0) -> done", "full(1) -> " + ENDED, "skip(0) -> 0",
            "skip(120) -> 0", "number(8) -> " + ENDED, "text() -> " + ENDED, "line() -> -1", "some(0) -> " + WRONG,
            "full(61) -> " + WRONG, "skip(121) -> " + WRONG, "number(9) -> " + WRONG, "mark(1) -> " + CAN_NOT,
            "reset() -> " + CAN_NOT, "unread(1) -> " + CAN_NOT, "portion() -> done", "breakAt(9) -> true",
            "available() -> 0", "about(-1) -> 1", "size(false) -> 0", "at(0, false) -> -1", "push(5, 0) -> 0"};
        for (String row : ended) {
            t.run("no byte to " + row, "feed(13, 1) -> 1", "line() -> 0", row, "feed(0x0A61, 2) -> 3", "read() -> 97");
        }
        for (String call : READING) {
            t.run("no byte to a failing " + call, "feed(0x0D0A61, 3) -> 3", "line() -> 0", "breakAt(1) -> true",
                call + " -> " + STATE, "breakAt(-1) -> true", "read() -> 97");
        }
        t.run("a byte that was put back is the first", "feed(0x0D0A61, 3) -> 3", "push(2, 2) -> 0", "line() -> 0",
            "unread(65) -> done", "read() -> 65", "read() -> 10");
        t.run("a 10 that was put back is the first", "feed(0x0D0A61, 3) -> 3", "push(2, 2) -> 0", "line() -> 0",
            "unread(10) -> done", "read() -> 10", "about(-1) -> 2");
        t.run("a LIMIT's end is no byte", "feed(0x0D0A61, 3) -> 3", "push(3, 1) -> 0", "line() -> 0", "read() -> -1",
            "about(-1) -> 1");
    }

    private static void nothingBehindIt(Runs t) {
        t.says("Terms", "(and nothing behind it, whatever comes then)");
        t.run("10 behind it in one answer", behind13("feed(0x0A0A0A, 3) -> 4", "some(9) -> 2", "bag 10 10"));
        t.run("10 behind it in another answer", behind13("feed(0x0A, 1) -> 2", "portion() -> done",
            "feed(0x0A0A, 2) -> 4", "some(9) -> 2", "bag 10 10"));
        t.run("10 behind it to another call", behind13("feed(0x0A, 1) -> 2", "read() -> -1", "feed(10, 1) -> 3",
            "read() -> 10"));
        t.run("10 behind it and a failure", behind13("feed(0x0A0A, 2) -> 3", "breakAt(2) -> true", "read() -> " + STATE,
            "breakAt(-1) -> true", "read() -> 10"));
        t.run("13 and 10 behind it", behind13("feed(0x0A0D0A, 3) -> 4", "some(9) -> 2", "bag 13 10"));
    }

    private static void bag(Runs t) {
        t.says("Terms", "A call puts the bytes that it reads into the BAG.");
        t.run("read", "feed(7, 1) -> 1", "read() -> 7", "bag 7");
        t.run("some", "feed(0x0708, 2) -> 2", "some(9) -> 2", "bag 7 8");
        t.run("full", "feed(0x0708, 2) -> 2", "full(2) -> done", "bag 7 8");
        t.run("number", "feed(0x0708, 2) -> 2", "number(2) -> 1800", "bag 7 8");
        t.run("text", "feed(0x000107, 3) -> 3", "text() -> 1", "bag 0 1 7");
        t.run("line", "feed(0x0708, 2) -> 2", "line() -> 2", "bag 7 8");
        t.run("by several requests", "feed(7, 1) -> 1", "portion() -> done", "feed(0x0809, 2) -> 3", "full(3) -> done",
            "bag 7 8 9");
        for (int n = 3; n <= 60; n++) {
            t.run("all of " + n, Runs.fed(7, n, "full(" + n + ") -> done", "bag" + " 7".repeat(n)));
        }
    }

    private static void emptied(Runs t) {
        t.says("Terms", "Calls of read, some, full, skip, number, text and line empty it first of all, "
            + "also when they throw at once.");
        String[] filled = {"feed(0x0102, 2) -> 2", "full(2) -> done", "bag 1 2"};
        for (String row : new String[] {"read() -> -1", "some(1) -> -1", "full(0) -> done", "full(1) -> " + ENDED,
            "skip(0) -> 0", "skip(1) -> 0", "number(1) -> " + ENDED, "text() -> " + ENDED, "line() -> -1"}) {
            t.run("the end: " + row, Runs.rows(filled, row, "bag", "size(false) -> 0", "at(0, false) -> -1"));
        }
        for (String call : READING) {
            t.run("a failing " + call, Runs.rows(filled, "breakAt(2) -> true", call + " -> " + STATE, "bag"));
            t.run("a closed " + call, Runs.rows(filled, "close() -> done", "bag 1 2", call + " -> " + STATE, "bag"));
        }
        for (String call : READING_WRONG) {
            t.run("a wrong " + call, Runs.rows(filled, call + " -> " + WRONG, "bag"));
            t.run("a closed and wrong " + call, Runs.rows(filled, "close() -> done", call + " -> " + STATE, "bag"));
        }
        for (String call : NOT_READING) {
            StreamTower x = new StreamTower();
            x.feed(0x0102, 2);
            x.full(2);
            Call.of(call).on(x);
            t.due("not by " + call, "the bag", x.size(false) + " " + x.at(0, false) + " " + x.at(1, false), "2 1 2");
        }
        t.run("not by mark, reset and unread that throw nothing", "feed(0x01020304, 4) -> 4", "push(1, 4) -> 0",
            "full(2) -> done", "mark(9) -> done", "bag 1 2", "reset() -> done", "bag 1 2", "push(2, 1) -> 1",
            "unread(9) -> done", "bag 1 2", "unread(9) -> " + STATE, "bag 1 2", "unread(256) -> " + WRONG, "bag 1 2",
            "mark(1) -> " + CAN_NOT, "reset() -> " + CAN_NOT, "bag 1 2", "close() -> done", "mark(1) -> " + STATE,
            "reset() -> " + STATE, "unread(1) -> " + STATE, "bag 1 2");
    }

    private static void closed(Runs t) {
        t.says("Promise 17", "The tower is closed from now on.");
        t.run("once and twice", "feed(1, 1) -> 1", "close() -> done", "read() -> " + STATE, "close() -> done",
            "read() -> " + STATE, "about(-1) -> 0");
        t.run("feed, portion and breakAt go on", "close() -> done", "feed(1, 1) -> 1", "portion() -> done",
            "feed(2, 1) -> 2", "available() -> 1", "feed(1, 0) -> " + WRONG, "breakAt(120) -> true",
            "breakAt(121) -> false", "breakAt(-1) -> true");
        t.run("what is there is told", "feed(0x00024142, 4) -> 4", "push(3, 9) -> 0", "text() -> 2", "close() -> done",
            "available() -> 0", "about(0) -> 5", "about(-1) -> 4", "about(1) -> -1", "bag 0 2 65 66", "letters 65 66",
            "at(4, false) -> -1");
        for (String call : READING) {
            t.unchanged("a closed " + call, call + " -> " + STATE, "feed(0x0D0A61, 3) -> 3", "push(1, 2) -> 0",
                "mark(9) -> done", "line() -> 0", "close() -> done");
        }
        for (String call : new String[] {"mark(1)", "reset()", "unread(1)"}) {
            t.unchanged("a closed " + call, call + " -> " + STATE, "feed(0x0D0A61, 3) -> 3", "push(1, 2) -> 0",
                "mark(9) -> done", "line() -> 0", "close() -> done");
        }
    }

    private static void firstOfAll(Runs t) {
        t.says("Terms", "Calls that read, and mark, reset and unread, throw IllegalStateException first of all "
            + "when the tower is closed.");
        for (String call : Runs.rows(READING, READING_WRONG, "full(0)", "skip(0)")) {
            t.run(call, "close() -> done", call + " -> " + STATE);
        }
        for (String call : new String[] {"mark(0)", "mark(33)", "mark(-1)", "reset()", "unread(0)", "unread(256)"}) {
            t.run(call + " of the source", "close() -> done", call + " -> " + STATE);
            t.run(call + " of a PUSHBACK", "push(2, 1) -> 0", "close() -> done", call + " -> " + STATE);
            t.run(call + " of a marked BUFFER", "push(1, 1) -> 0", "mark(9) -> done", "close() -> done",
                call + " -> " + STATE);
        }
    }

    private static void namedFirst(Runs t) {
        t.says("Terms", "Where several other exceptions that a call names fit, the one named first is thrown.");
        t.run("feed: a wrong n, and no room", Runs.fed(7, 120, "feed(1, 0) -> " + WRONG, "feed(1, 5) -> " + WRONG,
            "feed(1, 1) -> " + STATE));
        t.run("push: a wrong layer, and five", "push(5, 0) -> 0", "push(5, 0) -> 1", "push(5, 0) -> 2",
            "push(5, 0) -> 3", "push(5, 0) -> 4", "push(5, 1) -> " + WRONG, "push(6, 0) -> " + WRONG,
            "push(5, 0) -> " + STATE);
        t.run("push: a wrong layer, and closed", "close() -> done", "push(5, 1) -> " + WRONG, "push(0, 0) -> " + WRONG,
            "push(5, 0) -> " + STATE);
        for (String call : READING_WRONG) {
            t.run("a wrong " + call + ", and broken", "breakAt(0) -> true", call + " -> " + WRONG);
            t.run("a wrong " + call + ", and the end", call + " -> " + WRONG);
        }
        t.run("full and number: broken, and the end", "breakAt(0) -> true", "full(1) -> " + STATE,
            "number(1) -> " + STATE, "text() -> " + STATE);
        t.run("text: the end, and no letters", "feed(0x0002FF, 3) -> 3", "text() -> " + ENDED);
        t.run("text: broken, and no letters", "feed(0x0002FF, 3) -> 3", "breakAt(3) -> true", "text() -> " + STATE);
        t.run("mark: a wrong limit, and it can not", "mark(33) -> " + WRONG, "mark(-1) -> " + WRONG,
            "push(2, 1) -> 0", "mark(33) -> " + WRONG, "mark(32) -> " + CAN_NOT);
        t.run("unread: no byte, and no PUSHBACK", "unread(256) -> " + WRONG, "unread(-1) -> " + WRONG,
            "unread(255) -> " + CAN_NOT);
        t.run("unread: no byte, and no room", "push(2, 1) -> 0", "unread(1) -> done", "unread(256) -> " + WRONG,
            "unread(-1) -> " + WRONG, "unread(255) -> " + STATE);
    }

    private static void longRun(Runs t) {
        t.says("What it is", "An object is used for at most 512 calls after it has been made");
        t.run("the last calls of 512", Runs.rows("feed(0x0102, 2) -> 2", "push(1, 2) -> 0", "mark(2) -> done",
            manyTimes(169, "read() -> 1", "read() -> 2", "reset() -> done"), "read() -> 1", "read() -> 2"));
        t.run("putting back and reading", Runs.rows("push(2, 8) -> 0", manyTimes(255, "unread(255) -> done",
            "read() -> 255"), "read() -> -1"));
    }

    private static String[] manyTimes(int n, String... rows) {
        String[] all = new String[0];
        for (int k = 0; k < n; k++) {
            all = Runs.rows(all, rows);
        }
        return all;
    }
}
