/** What the document's sentences say at their edges: the layers, push, unread, available and about. */
public final class EdgesOfLayersTest {
    private static final String WRONG = "throws.IllegalArgumentException";
    private static final String STATE = "throws.IllegalStateException";
    private static final String CAN_NOT = "throws.UnsupportedOperationException";

    private static final String[] EIGHT = {"feed(0x01020304, 4) -> 4", "feed(0x05060708, 4) -> 8"};
    private static final String[] FARTHEST = {"2147483647", "-2147483648"};

    public static void main(String[] args) {
        Runs t = new Runs();
        fiveLayers(t);
        top(t);
        bufferSize(t);
        bufferGoingBelow(t);
        bufferGiving(t);
        pushback(t);
        limitNumber(t);
        limitLeft(t);
        code(t);
        lines(t);
        push(t);
        unread(t);
        unreadRefused(t);
        available(t);
        about(t);
        t.end();
    }

    private static void fiveLayers(Runs t) {
        t.says("Terms", "LAYERS lie one above the other over the source, at most 5, numbered from 0, the lowest.");
        String[] five = {"push(3, 50) -> 0", "push(3, 51) -> 1", "push(3, 52) -> 2", "push(3, 53) -> 3",
            "push(3, 54) -> 4"};
        t.run("five", Runs.rows(five, "about(0) -> 50", "about(1) -> 51", "about(2) -> 52", "about(3) -> 53",
            "about(4) -> 54", "about(5) -> -1"));
        t.unchanged("six", "push(3, 55) -> " + STATE, Runs.rows(EIGHT, five, "read() -> 1"));
        t.run("a request goes through all five", Runs.rows(EIGHT, five, "some(3) -> 3", "about(-1) -> 3",
            "about(0) -> 47", "about(1) -> 48", "about(2) -> 49", "about(3) -> 50", "about(4) -> 51"));
        t.run("the top stays when a sixth is refused", "push(5, 0) -> 0", "push(5, 0) -> 1", "push(5, 0) -> 2",
            "push(5, 0) -> 3", "push(2, 1) -> 4", "push(3, 0) -> " + STATE, "unread(9) -> done", "read() -> 9");
    }

    private static void top(Runs t) {
        t.says("Terms", "THE TOP is the highest layer, or the source when there is none.");
        t.run("none", "feed(0x0102, 2) -> 2", "available() -> 2", "unread(1) -> " + CAN_NOT, "some(9) -> 2");
        t.run("the highest", "feed(0x0102, 2) -> 2", "push(3, 1) -> 0", "available() -> 1", "push(2, 1) -> 1",
            "unread(9) -> done", "available() -> 2", "push(3, 0) -> 2", "available() -> 0", "read() -> -1",
            "unread(9) -> " + CAN_NOT);
    }

    private static void bufferSize(Runs t) {
        t.says("Terms", "1 BUFFER, of a size 1 .. 16");
        t.run("1 keeps none behind one byte", Runs.rows(EIGHT, "push(1, 1) -> 0", "read() -> 1", "about(0) -> 0",
            "about(-1) -> 1"));
        t.run("16 keeps fifteen behind one byte", Runs.fed(7, 20, "push(1, 16) -> 0", "read() -> 7", "about(0) -> 15",
            "about(-1) -> 16"));
        sizeRefused(t, 1, "0", "17", "-1");
        t.says("Terms, BUFFER", "it keeps bytes that were answered from below and not yet given");
        t.run("none at first, then all but the given ones", Runs.rows(EIGHT, "push(1, 4) -> 0", "about(0) -> 0",
            "read() -> 1", "about(0) -> 3", "read() -> 2", "about(0) -> 2", "read() -> 3", "about(0) -> 1",
            "read() -> 4", "about(0) -> 0", "about(-1) -> 4", "read() -> 5", "about(0) -> 3", "about(-1) -> 8"));
    }

    private static void sizeRefused(Runs t, int kind, String... sizes) {
        for (String size : Runs.rows(sizes, FARTHEST)) {
            t.unchanged("size " + size, "push(" + kind + ", " + size + ") -> " + WRONG,
                Runs.rows(EIGHT, "push(2, 3) -> 0", "unread(9) -> done"));
        }
    }

    private static void bufferGoingBelow(Runs t) {
        t.says("Terms, BUFFER", "If there are none, and n is not less than its size and it has no mark, "
            + "the request goes below as it is.");
        String[] three = Runs.rows(EIGHT, "push(1, 3) -> 0");
        t.run("n one less than the size", Runs.rows(three, "some(2) -> 2", "about(0) -> 1", "about(-1) -> 3"));
        t.run("n as the size", Runs.rows(three, "some(3) -> 3", "about(0) -> 0", "about(-1) -> 3"));
        t.run("n one more than the size", Runs.rows(three, "some(4) -> 4", "about(0) -> 0", "about(-1) -> 4"));
        t.run("size 1, n 2", Runs.rows(EIGHT, "push(1, 1) -> 0", "some(2) -> 2", "about(-1) -> 2"));
        t.run("size 16, n 15", Runs.fed(7, 40, "push(1, 16) -> 0", "some(15) -> 15", "about(0) -> 1",
            "about(-1) -> 16"));
        t.run("size 16, n 17", Runs.fed(7, 40, "push(1, 16) -> 0", "some(17) -> 17", "about(0) -> 0",
            "about(-1) -> 17"));
        t.run("one is kept", Runs.rows(three, "some(2) -> 2", "some(4) -> 1", "bag 3", "about(-1) -> 3"));
        t.run("it has a mark", Runs.rows(three, "mark(32) -> done", "some(4) -> 3", "bag 1 2 3", "about(-1) -> 3"));
        t.run("it has a mark of limit 0", Runs.rows(three, "mark(0) -> done", "some(4) -> 3", "about(-1) -> 3",
            "some(4) -> 4", "about(-1) -> 7"));
        t.run("as it is: a LIMIT below answers it", Runs.rows(EIGHT, "push(3, 2) -> 0", "push(1, 3) -> 1",
            "some(4) -> 2", "about(0) -> 0", "about(1) -> 0"));
        t.run("as it is: the end below", "push(1, 3) -> 0", "some(4) -> -1", "feed(1, 1) -> 1", "some(4) -> 1");
    }

    private static void bufferGiving(Runs t) {
        t.says("Terms, BUFFER", "If there are none otherwise, it requests its size from below and keeps what is "
            + "answered (if that is none, the end).");
        t.run("all of its size is answered", Runs.rows(EIGHT, "push(1, 4) -> 0", "read() -> 1", "about(0) -> 3"));
        t.run("less is answered", "feed(0x0102, 2) -> 2", "push(1, 4) -> 0", "read() -> 1", "about(0) -> 1");
        t.run("none is answered", "push(1, 4) -> 0", "read() -> -1", "about(0) -> 0", "feed(1, 1) -> 1",
            "read() -> 1");
        t.run("none is answered, with a mark", "feed(1, 1) -> 1", "push(1, 4) -> 0", "mark(1) -> done", "read() -> 1",
            "read() -> -1", "some(9) -> -1", "reset() -> done", "read() -> 1");
        t.says("Terms, BUFFER", "Then it gives n of those kept, or all when there are fewer.");
        String[] three = Runs.rows(EIGHT, "push(1, 4) -> 0", "read() -> 1");
        t.run("n one less than those kept", Runs.rows(three, "some(2) -> 2", "bag 2 3", "about(0) -> 1"));
        t.run("n as those kept", Runs.rows(three, "some(3) -> 3", "bag 2 3 4", "about(0) -> 0"));
        t.run("n one more than those kept", Runs.rows(three, "some(4) -> 3", "bag 2 3 4", "about(0) -> 0",
            "about(-1) -> 4"));
        t.run("n 60", Runs.rows(three, "some(60) -> 3", "bag 2 3 4", "about(-1) -> 4"));
    }

    private static void pushback(Runs t) {
        t.says("Terms", "2 PUSHBACK, of a size 1 .. 8");
        t.run("1", "push(2, 1) -> 0");
        t.run("8", "push(2, 8) -> 0");
        sizeRefused(t, 2, "0", "9", "-1");
        t.says("Terms, PUSHBACK", "it has bytes that were put back, at most its size, none at first");
        for (int size = 1; size <= 8; size++) {
            t.run("size " + size, Runs.rows("push(2, " + size + ") -> 0", "about(0) -> 0",
                Runs.times(size, "unread(5) -> done"), "about(0) -> " + size, "unread(6) -> " + STATE,
                "about(0) -> " + size, "read() -> 5", "unread(6) -> done", "unread(6) -> " + STATE,
                "some(9) -> " + size));
        }
        t.says("Terms, PUSHBACK", "If there are any it answers n of them, or all when there are fewer, the latest first");
        String[] three = {"feed(0x0102, 2) -> 2", "push(2, 4) -> 0", "unread(7) -> done", "unread(8) -> done",
            "unread(9) -> done"};
        t.run("n one less", Runs.rows(three, "some(2) -> 2", "bag 9 8", "about(0) -> 1", "about(-1) -> 0"));
        t.run("just n", Runs.rows(three, "some(3) -> 3", "bag 9 8 7", "about(0) -> 0", "about(-1) -> 0"));
        t.run("n one more", Runs.rows(three, "some(4) -> 3", "bag 9 8 7", "about(0) -> 0", "about(-1) -> 0"));
        t.run("there is one", "feed(0x0102, 2) -> 2", "push(2, 4) -> 0", "unread(7) -> done", "some(4) -> 1", "bag 7");
        t.run("below is broken or at the end", "push(2, 4) -> 0", "unread(7) -> done", "breakAt(0) -> true",
            "read() -> 7", "read() -> " + STATE, "breakAt(-1) -> true", "unread(8) -> done", "read() -> 8",
            "read() -> -1");
        t.says("Terms, PUSHBACK", "otherwise it requests n from below and answers that");
        t.run("n one less, as, and one more than there is", "feed(0x010203, 3) -> 3", "portion() -> done",
            "feed(0x0405, 2) -> 5", "portion() -> done", "feed(0x06, 1) -> 6", "push(2, 4) -> 0", "some(2) -> 2",
            "bag 1 2", "some(1) -> 1", "bag 3", "some(3) -> 2", "bag 4 5", "some(1) -> 1", "some(1) -> -1");
    }

    private static void limitNumber(Runs t) {
        t.says("Terms", "3 LIMIT, of a number 0 .. 200 LEFT");
        t.run("0", "feed(1, 1) -> 1", "push(3, 0) -> 0", "about(0) -> 0", "read() -> -1");
        t.run("1", "feed(0x0102, 2) -> 2", "push(3, 1) -> 0", "about(0) -> 1", "read() -> 1", "read() -> -1");
        t.run("200", Runs.fed(7, 120, "push(3, 200) -> 0", "about(0) -> 200", "skip(120) -> 120", "about(0) -> 80",
            "read() -> -1", "about(0) -> 80"));
        sizeRefused(t, 3, "-1", "201", "-200");
    }

    private static void limitLeft(Runs t) {
        t.says("Terms, LIMIT", "when none is left, the end");
        t.run("one left, then none", "feed(0x010203, 3) -> 3", "push(3, 2) -> 0", "read() -> 1", "about(0) -> 1",
            "read() -> 2", "about(0) -> 0", "read() -> -1", "some(60) -> -1", "about(0) -> 0", "about(-1) -> 2");
        t.run("also where it is broken below", "feed(0x0102, 2) -> 2", "push(3, 1) -> 0", "breakAt(1) -> true",
            "read() -> 1", "read() -> -1");
        t.says("Terms, LIMIT", "otherwise it requests n, or what is left when that is less, from below");
        String[] three = Runs.rows(EIGHT, "push(3, 3) -> 0");
        t.run("n one less than what is left", Runs.rows(three, "some(2) -> 2", "about(0) -> 1", "about(-1) -> 2"));
        t.run("n as what is left", Runs.rows(three, "some(3) -> 3", "about(0) -> 0", "about(-1) -> 3"));
        t.run("n one more than what is left", Runs.rows(three, "some(4) -> 3", "about(0) -> 0", "about(-1) -> 3"));
        t.run("a BUFFER below is asked for less than its size", Runs.rows(EIGHT, "push(1, 4) -> 0", "push(3, 3) -> 1",
            "some(60) -> 3", "about(0) -> 1"));
        t.run("a BUFFER below is asked for more than its size", Runs.rows(EIGHT, "push(1, 4) -> 0", "push(3, 5) -> 1",
            "some(60) -> 5", "about(0) -> 0", "about(-1) -> 5"));
        t.says("Terms, LIMIT", "and answers that, so many less being left");
        t.run("below answers less than n", "feed(0x0102, 2) -> 2", "push(3, 9) -> 0", "some(5) -> 2", "about(0) -> 7");
        t.run("below answers the end", "push(3, 9) -> 0", "some(5) -> -1", "about(0) -> 9");
        t.run("below fails", "push(3, 9) -> 0", "breakAt(0) -> true", "some(5) -> " + STATE, "about(0) -> 9");
    }

    private static void code(Runs t) {
        t.says("Terms", "4 CODE, of a key 0 .. 255");
        t.run("0", "feed(0x55, 1) -> 1", "push(4, 0) -> 0", "read() -> 85");
        t.run("255", "feed(0x55, 1) -> 1", "push(4, 255) -> 0", "read() -> 170");
        sizeRefused(t, 4, "-1", "256", "-255");
        t.says("Terms, CODE", "it requests n from below and answers that");
        t.run("n as the portion, and one more", "feed(0x0102, 2) -> 2", "portion() -> done", "feed(0x0304, 2) -> 4",
            "push(4, 0) -> 0", "some(2) -> 2", "bag 1 3", "about(0) -> 2", "some(3) -> 2", "bag 1 7", "about(0) -> 4",
            "some(1) -> -1");
        t.says("Terms, CODE", "each byte made the exclusive or of it and the lowest eight bits of key + k, "
            + "k being how many bytes it had answered before");
        t.run("key + k is 255, then 256", "feed(0, 3) -> 3", "push(4, 255) -> 0", "some(9) -> 3", "bag 255 0 1");
        t.run("key + k is 255, then 256, of two answers", "feed(0, 3) -> 3", "push(4, 254) -> 0", "some(2) -> 2",
            "bag 254 255", "some(1) -> 1", "bag 0");
        t.run("the last of 120 is 255", Runs.fed(0, 120, "push(4, 136) -> 0", "line() -> 120", "at(118, false) -> 254",
            "at(119, false) -> 255", "about(0) -> 120"));
        t.run("the last of 120 is 256", Runs.fed(0, 120, "push(4, 137) -> 0", "line() -> 120", "at(118, false) -> 255",
            "at(119, false) -> 0", "about(0) -> 120"));
        t.run("the greatest byte and key + k far above 255", Runs.fed(255, 120, "push(4, 255) -> 0", "skip(119) -> 119",
            "read() -> 137"));
        t.run("the end and a failure answer no byte", "feed(0, 1) -> 1", "push(4, 7) -> 0", "read() -> 7",
            "read() -> -1", "breakAt(1) -> true", "some(9) -> " + STATE, "breakAt(-1) -> true", "about(0) -> 1",
            "feed(0, 1) -> 2", "read() -> 8", "about(0) -> 2");
        t.run("what was answered to others below is not counted", "feed(0, 2) -> 2", "read() -> 0", "push(4, 7) -> 0",
            "read() -> 7");
        t.run("what is left out behind a line was answered", "feed(0x0D0B63, 3) -> 3", "push(4, 0) -> 0", "line() -> 0",
            "about(0) -> 1", "read() -> 97", "about(0) -> 3");
    }

    private static void lines(Runs t) {
        t.says("Terms", "5 LINES, of size 0");
        t.run("0", "push(5, 0) -> 0", "about(0) -> 0");
        sizeRefused(t, 5, "1", "-1");
        t.says("Terms, LINES", "it requests n from below, answers that");
        t.run("n as the portion, and one more", "feed(0x0A0D, 2) -> 2", "portion() -> done", "feed(0x610A, 2) -> 4",
            "push(5, 0) -> 0", "some(2) -> 2", "bag 10 13", "some(3) -> 2", "bag 97 10", "some(1) -> -1");
        t.says("Terms, LINES", "and counts the line ends in it: each 10, and each 13");
        for (String b : new String[] {"0", "9", "11", "12", "14", "138", "141", "255"}) {
            t.run("no line end " + b, "feed(" + b + ", 1) -> 1", "push(5, 0) -> 0", "read() -> " + b, "about(0) -> 0");
        }
        counted(t, "0x0A", 1, 1);
        counted(t, "0x0D", 1, 1);
        counted(t, "0x0A0A", 2, 2);
        counted(t, "0x0D0D", 2, 2);
        counted(t, "0x0A0D", 2, 2);
        t.says("Terms, LINES", "but a 10 directly behind a 13 (also of an earlier answer) does not count");
        counted(t, "0x0D0A", 2, 1);
        counted(t, "0x0D0A0A", 3, 2);
        counted(t, "0x0D0D0A", 3, 2);
        counted(t, "0x0A0D0A", 3, 2);
        counted(t, "0x0D000A", 3, 2);
        counted(t, "0x0D0A0D0A", 4, 2);
        t.run("the end or a failure between them", "feed(13, 1) -> 1", "push(5, 0) -> 0", "read() -> 13",
            "read() -> -1", "breakAt(1) -> true", "read() -> " + STATE, "breakAt(-1) -> true", "feed(10, 1) -> 2",
            "read() -> 10", "about(0) -> 1");
        t.run("a 13 that came before the layer was there", "feed(0x0D0A, 2) -> 2", "read() -> 13", "push(5, 0) -> 0",
            "read() -> 10", "about(0) -> 1");
    }

    /** The bytes in one answer and in answers of one byte. */
    private static void counted(Runs t, String bytes, int n, int ends) {
        String feed = "feed(" + bytes + ", " + n + ") -> " + n;
        t.run("one answer " + bytes, feed, "push(5, 0) -> 0", "some(9) -> " + n, "about(0) -> " + ends);
        t.run("answers of one byte " + bytes, Runs.rows(feed, "push(5, 0) -> 0", Runs.times(n, "some(1) -> 1"),
            "about(0) -> " + ends));
    }

    private static void push(Runs t) {
        t.says("Promise 5", "A new layer over the top; answers its number.");
        t.run("0 and 4", "push(3, 9) -> 0", "push(3, 8) -> 1", "push(3, 7) -> 2", "push(3, 6) -> 3", "push(3, 5) -> 4",
            "about(4) -> 5");
        t.run("a refused one has no number", "push(1, 17) -> " + WRONG, "push(3, 9) -> 0", "push(0, 0) -> " + WRONG,
            "push(3, 8) -> 1", "about(0) -> 9", "about(1) -> 8", "about(2) -> -1");
        t.says("Promise 5", "IllegalArgumentException when kind is not 1 .. 5 or size not as said for it");
        t.run("1", "push(1, 1) -> 0");
        t.run("5", "push(5, 0) -> 0");
        for (String kind : Runs.rows("0", "6", "-1", "-5", FARTHEST)) {
            for (String size : new String[] {"0", "1"}) {
                t.unchanged("kind " + kind, "push(" + kind + ", " + size + ") -> " + WRONG, "feed(1, 1) -> 1",
                    "push(2, 3) -> 0");
            }
        }
        t.run("a size that another kind has", "push(2, 16) -> " + WRONG, "push(1, 200) -> " + WRONG,
            "push(3, 255) -> " + WRONG, "push(5, 16) -> " + WRONG, "about(0) -> -1");
        t.says("Promise 5", "IllegalStateException when the tower is closed or there are 5");
        t.run("open and four", "push(5, 0) -> 0", "push(5, 0) -> 1", "push(5, 0) -> 2", "push(5, 0) -> 3",
            "push(5, 0) -> 4");
        t.unchanged("five", "push(2, 3) -> " + STATE, "feed(1, 1) -> 1", "push(5, 0) -> 0", "push(5, 0) -> 1",
            "push(5, 0) -> 2", "push(5, 0) -> 3", "push(5, 0) -> 4");
        t.unchanged("closed", "push(2, 3) -> " + STATE, "feed(1, 1) -> 1", "push(3, 9) -> 0", "close() -> done");
        t.run("closed and none", "close() -> done", "push(5, 0) -> " + STATE, "about(0) -> -1");
    }

    private static void unread(Runs t) {
        t.says("Promise 15", "Puts a byte back into the top.");
        t.run("it is read next", "feed(0x0102, 2) -> 2", "push(2, 2) -> 0", "read() -> 1", "unread(7) -> done",
            "read() -> 7", "read() -> 2");
        t.run("and one before it then", "feed(1, 1) -> 1", "push(2, 2) -> 0", "unread(7) -> done", "unread(8) -> done",
            "read() -> 8", "read() -> 7", "read() -> 1");
        for (int b = 0; b <= 255; b++) {
            t.run("any byte", "push(2, 1) -> 0", "unread(" + b + ") -> done", "read() -> " + b);
        }
        t.says("Terms", "BYTES are 0 .. 255.");
        t.run("0 and 255", "push(2, 2) -> 0", "unread(0) -> done", "unread(255) -> done", "read() -> 255",
            "read() -> 0", "read() -> -1");
        t.says("Promise 15", "IllegalArgumentException when b is not a byte");
        for (String b : Runs.rows("-1", "256", FARTHEST)) {
            t.unchanged("b is " + b, "unread(" + b + ") -> " + WRONG, "feed(1, 1) -> 1", "push(2, 3) -> 0",
                "unread(9) -> done");
        }
        t.says("Promise 15", "UnsupportedOperationException when the top is no PUSHBACK");
        t.unchanged("the source", "unread(1) -> " + CAN_NOT, "feed(1, 1) -> 1");
        for (String kind : new String[] {"push(1, 4)", "push(3, 9)", "push(4, 9)", "push(5, 0)"}) {
            t.unchanged(kind, "unread(1) -> " + CAN_NOT, "feed(1, 1) -> 1", kind + " -> 0");
            t.unchanged(kind + " over a PUSHBACK", "unread(1) -> " + CAN_NOT, "feed(1, 1) -> 1", "push(2, 3) -> 0",
                "unread(9) -> done", kind + " -> 1");
        }
        t.run("a PUSHBACK over it", "push(5, 0) -> 0", "unread(1) -> " + CAN_NOT, "push(2, 1) -> 1",
            "unread(1) -> done");
    }

    private static void unreadRefused(Runs t) {
        t.says("Promise 15", "IllegalStateException also when that has no room");
        t.run("room for one", "push(2, 1) -> 0", "unread(1) -> done", "unread(2) -> " + STATE, "read() -> 1",
            "unread(2) -> done", "read() -> 2");
        t.unchanged("no room in a size of 1", "unread(2) -> " + STATE, "feed(1, 1) -> 1", "push(2, 1) -> 0",
            "unread(1) -> done");
        t.unchanged("no room in a size of 8", "unread(2) -> " + STATE, Runs.rows("feed(1, 1) -> 1", "push(2, 8) -> 0",
            Runs.times(8, "unread(5) -> done")));
        t.run("a full one below does not matter", "push(2, 1) -> 0", "unread(1) -> done", "push(2, 1) -> 1",
            "unread(2) -> done", "unread(3) -> " + STATE, "read() -> 2", "read() -> 1");
        t.run("bytes that were never read may be put back", "push(2, 8) -> 0", "unread(1) -> done", "read() -> 1",
            "read() -> -1");
    }

    private static void available(Runs t) {
        t.says("Promise 16", "How many bytes the top could answer without waiting: the source those of the portion "
            + "from the taken ones on");
        t.run("none, one, and less and less", "available() -> 0", "feed(1, 1) -> 1", "available() -> 1",
            "feed(2, 1) -> 2", "portion() -> done", "feed(3, 1) -> 3", "available() -> 2", "read() -> 1",
            "available() -> 1", "read() -> 2", "available() -> 1", "read() -> 3", "available() -> 0");
        t.run("120", Runs.fed(7, 120, "available() -> 120"));
        t.run("broken or closed, they are there", "feed(0x0102, 2) -> 2", "breakAt(0) -> true", "available() -> 2",
            "close() -> done", "available() -> 2");
        t.says("Promise 16", "a BUFFER and a PUSHBACK those that they have to give and those below");
        t.run("a BUFFER with none, some and the last", Runs.rows(EIGHT, "push(1, 3) -> 0", "available() -> 8",
            "read() -> 1", "available() -> 7", "full(2) -> done", "about(0) -> 0", "available() -> 5"));
        t.run("a BUFFER that went back", Runs.rows(EIGHT, "push(1, 3) -> 0", "mark(4) -> done", "full(4) -> done",
            "available() -> 4", "reset() -> done", "available() -> 8"));
        t.run("a PUSHBACK with none, one and all", "feed(0x0102, 2) -> 2", "push(2, 2) -> 0", "available() -> 2",
            "unread(1) -> done", "available() -> 3", "unread(1) -> done", "available() -> 4", "unread(1) -> " + STATE,
            "available() -> 4");
        t.says("Promise 16", "a LIMIT those below, at most what is left");
        String[] three = {"feed(0x010203, 3) -> 3"};
        t.run("0 left", Runs.rows(three, "push(3, 0) -> 0", "available() -> 0"));
        t.run("one less left than those below", Runs.rows(three, "push(3, 2) -> 0", "available() -> 2"));
        t.run("as many left as those below", Runs.rows(three, "push(3, 3) -> 0", "available() -> 3"));
        t.run("one more left than those below", Runs.rows(three, "push(3, 4) -> 0", "available() -> 3"));
        t.says("Promise 16", "others those below");
        t.run("CODE and LINES", Runs.rows(three, "push(4, 1) -> 0", "available() -> 3", "push(5, 0) -> 1",
            "available() -> 3", "full(3) -> done", "available() -> 0"));
    }

    private static void about(Runs t) {
        t.says("Promise 18", "Of a layer: what it has to give (BUFFER)");
        t.run("not what a mark keeps", Runs.rows(EIGHT, "push(1, 3) -> 0", "about(0) -> 0", "mark(9) -> done",
            "full(4) -> done", "about(0) -> 2", "reset() -> done", "about(0) -> 6"));
        t.says("Promise 18", "what was put back (PUSHBACK)");
        t.run("not what was read again", "push(2, 8) -> 0", "about(0) -> 0", "unread(1) -> done", "about(0) -> 1",
            "read() -> 1", "about(0) -> 0");
        t.says("Promise 18", "what is left (LIMIT), how many bytes it answered (CODE), "
            + "how many line ends it counted (LINES)");
        t.run("0 left, none answered, none counted", "feed(10, 1) -> 1", "push(5, 0) -> 0", "push(4, 0) -> 1",
            "push(3, 1) -> 2", "about(0) -> 0", "about(1) -> 0", "about(2) -> 1", "read() -> 10", "about(0) -> 1",
            "about(1) -> 1", "about(2) -> 0", "read() -> -1", "about(0) -> 1", "about(1) -> 1", "about(2) -> 0");
        t.run("a 13 is counted when it comes, its 10 not again", "feed(0x0D0A0D, 3) -> 3", "push(5, 0) -> 0",
            "read() -> 13", "about(0) -> 1", "read() -> 10", "about(0) -> 1", "read() -> 13", "about(0) -> 2");
        t.says("Promise 18", "Of the source (layer -1) how many are taken.");
        t.run("0 and 120", Runs.fed(7, 120, "about(-1) -> 0", "skip(120) -> 120", "about(-1) -> 120"));
        t.says("Promise 18", "NONE when there is no such layer.");
        String[] layers = {"push(3, 50) -> 0", "push(3, 51) -> 1", "push(3, 52) -> 2", "push(3, 53) -> 3",
            "push(3, 54) -> 4"};
        for (int n = 0; n <= 5; n++) {
            String[] there = java.util.Arrays.copyOf(layers, n);
            for (int layer = 0; layer <= 6; layer++) {
                t.run(n + " layers", Runs.rows(there, "about(" + layer + ") -> " + (layer < n ? 50 + layer : -1)));
            }
            t.run(n + " layers", Runs.rows(there, "about(-2) -> -1", "about(2147483647) -> -1",
                "about(-2147483648) -> -1"));
        }
    }
}
