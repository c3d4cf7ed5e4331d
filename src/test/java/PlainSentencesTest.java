/** The document's sentences that name no edge: what a tower is, what a call requests, and NONE. */
public final class PlainSentencesTest {
    private static final String STATE = "throws.IllegalStateException";
    private static final String ENDED = "throws.NoSuchElementException";

    private static final String[] EIGHT = {"feed(0x01020304, 4) -> 4", "feed(0x05060708, 4) -> 8"};

    public static void main(String[] args) {
        Runs t = new Runs();
        wholeTower(t);
        twoTowers(t);
        requestOfN(t);
        requestsOfMany(t);
        requestToTheTop(t);
        none(t);
        t.end();
    }

    private static void wholeTower(Runs t) {
        t.says("What it is", "A tower of streams of bytes: a source that gives bytes in portions and may break, "
            + "layers above it that buffer, take bytes back, end early, code or count lines, "
            + "and calls on its top that read bytes, numbers, texts and lines, skip, mark and go back.");
        String[] portions = {"feed(0x68690D0A, 4) -> 4", "portion() -> done", "feed(0x00024142, 4) -> 8",
            "portion() -> done", "feed(0x01020304, 4) -> 12"};
        t.run("the source alone", Runs.rows(portions, "some(60) -> 4", "bag 104 105 13 10", "breakAt(4) -> true",
            "some(60) -> " + STATE, "breakAt(-1) -> true", "some(60) -> 4", "bag 0 2 65 66", "some(60) -> 4",
            "bag 1 2 3 4", "some(60) -> -1"));
        String[] lines = Runs.rows(portions, "push(5, 0) -> 0", "push(1, 4) -> 1", "line() -> 2", "bag 104 105",
            "about(0) -> 1", "about(1) -> 1", "text() -> 2", "bag 0 2 65 66", "letters 65 66");
        String[] wentBack = Runs.rows(lines, "mark(4) -> done", "number(2) -> 258", "reset() -> done", "push(4, 0) -> 2",
            "read() -> 1", "skip(1) -> 1", "bag");
        t.run("a layer of each kind", Runs.rows(wentBack, "push(3, 1) -> 3", "some(9) -> 1", "bag 1", "read() -> -1",
            "push(2, 2) -> 4", "unread(9) -> done", "available() -> 1", "read() -> 9", "read() -> -1", "about(-1) -> 12",
            "about(0) -> 1", "about(1) -> 1", "about(2) -> 3", "about(3) -> 0", "about(4) -> 0", "letters 65 66",
            "close() -> done", "read() -> " + STATE));
    }

    private static void twoTowers(Runs t) {
        t.says("Promise 1", "An empty source with one portion, no layers, open, an empty bag.");
        StreamTower used = new StreamTower();
        for (String call : new String[] {"feed(0x00014142, 4)", "text()", "push(1, 4)", "mark(9)", "feed(0x0D, 1)",
            "line()", "breakAt(0)", "close()"}) {
            Call.of(call).on(used);
        }
        t.run("beside one that was used", "about(-1) -> 0", "about(0) -> -1", "size(false) -> 0", "size(true) -> 0",
            "feed(10, 1) -> 1", "read() -> 10", "push(1, 4) -> 0", "reset() -> " + STATE);
        t.due("the used one stays", "its bag", used.size(false) + " " + used.at(0, false), "1 66");
        t.due("the used one stays", "its letters", used.size(true) + " " + used.at(0, true), "1 65");
    }

    /** A BUFFER tells of how many bytes a request is: less than its size are kept from its size on. */
    private static void requestOfN(Runs t) {
        t.says("Terms", "A CALL READS n bytes by a request of n to the top.");
        t.run("read: 1", Runs.rows(EIGHT, "push(1, 1) -> 0", "read() -> 1", "about(0) -> 0", "about(-1) -> 1"));
        t.run("read: less than 2", Runs.rows(EIGHT, "push(1, 2) -> 0", "read() -> 1", "about(0) -> 1"));
        for (int n = 2; n <= 5; n++) {
            String size = "push(1, " + n + ") -> 0";
            String more = "push(1, " + (n + 1) + ") -> 0";
            String less = "push(1, " + (n - 1) + ") -> 0";
            t.run("some of more than a size", Runs.rows(EIGHT, less, "some(" + n + ") -> " + n, "about(-1) -> " + n));
            t.run("full of more than a size", Runs.rows(EIGHT, less, "full(" + n + ") -> done", "about(0) -> 0",
                "about(-1) -> " + n));
            t.run("skip of more than a size", Runs.rows(EIGHT, less, "skip(" + n + ") -> " + n, "about(0) -> 0",
                "about(-1) -> " + n));
            t.run("some of " + n, Runs.rows(EIGHT, size, "some(" + n + ") -> " + n, "about(0) -> 0"));
            t.run("some of less than a size", Runs.rows(EIGHT, more, "some(" + n + ") -> " + n, "about(0) -> 1"));
            t.run("full of " + n, Runs.rows(EIGHT, size, "full(" + n + ") -> done", "about(0) -> 0"));
            t.run("full of less than a size", Runs.rows(EIGHT, more, "full(" + n + ") -> done", "about(0) -> 1"));
            t.run("skip of " + n, Runs.rows(EIGHT, size, "skip(" + n + ") -> " + n, "about(0) -> 0"));
            t.run("skip of less than a size", Runs.rows(EIGHT, more, "skip(" + n + ") -> " + n, "about(0) -> 1"));
        }
        t.run("number of 2", Runs.rows(EIGHT, "push(1, 2) -> 0", "number(2) -> 258", "about(0) -> 0"));
        t.run("number of less than 3", Runs.rows(EIGHT, "push(1, 3) -> 0", "number(2) -> 258", "about(0) -> 1"));
        t.run("line: again and again 1", "feed(0x41420A43, 4) -> 4", "push(1, 1) -> 0", "line() -> 2", "about(0) -> 0",
            "about(-1) -> 3");
        t.run("line: less than 2", "feed(0x41420A43, 4) -> 4", "push(1, 2) -> 0", "line() -> 2", "about(0) -> 1",
            "about(-1) -> 4");
    }

    private static void requestsOfMany(Runs t) {
        t.says("Promise 11", "Reads a number of 2 bytes, then so many bytes as it says, as full does");
        String[] text = {"feed(0x00034142, 4) -> 4", "feed(0x43444546, 4) -> 8"};
        t.run("2, then 3", Runs.rows(text, "push(1, 2) -> 0", "text() -> 3", "about(0) -> 0", "about(-1) -> 5"));
        t.run("less than 3, then 2 of those not kept", Runs.rows(text, "push(1, 3) -> 0", "text() -> 3", "about(0) -> 1",
            "about(-1) -> 6"));
        t.says("Terms", "A CALL READS n bytes by a request of n to the top.");
        t.run("some is one request", "feed(1, 1) -> 1", "portion() -> done", "feed(2, 1) -> 2", "some(2) -> 1", "bag 1",
            "about(-1) -> 1");
        t.run("a request that is answered is not followed by one that fails", "feed(0x0102, 2) -> 2",
            "breakAt(2) -> true", "some(3) -> 2", "full(0) -> done", "some(1) -> " + STATE);
    }

    private static void requestToTheTop(Runs t) {
        t.says("Terms", "A CALL READS n bytes by a request of n to the top.");
        String[] low = Runs.rows("feed(0x0D61, 2) -> 2", "push(2, 8) -> 0", "unread(7) -> done", "push(2, 8) -> 1",
            "unread(1) -> done", "unread(0) -> done");
        t.run("read", Runs.rows(low, "read() -> 0", "about(1) -> 1", "about(0) -> 1", "about(-1) -> 0"));
        t.run("some", Runs.rows(low, "some(9) -> 2", "bag 0 1", "about(1) -> 0", "about(0) -> 1"));
        t.run("full", Runs.rows(low, "full(3) -> done", "bag 0 1 7", "about(0) -> 0", "about(-1) -> 0"));
        t.run("skip", Runs.rows(low, "skip(3) -> 3", "about(1) -> 0", "about(0) -> 0", "about(-1) -> 0"));
        t.run("number", Runs.rows(low, "number(2) -> 1", "about(1) -> 0", "about(0) -> 1"));
        t.run("text", Runs.rows(low, "text() -> 1", "letters 7", "about(-1) -> 0"));
        t.run("line", Runs.rows(low, "line() -> 3", "bag 0 1 7", "about(-1) -> 1"));
    }

    private static void none(Runs t) {
        t.says("Terms", "The constants: `NONE = -1`: The end; nothing there.");
        t.due("its value", "NONE", "" + StreamTower.NONE, "-1");
        String none = " -> " + StreamTower.NONE;
        t.run("the end", "read()" + none, "some(1)" + none, "line()" + none);
        t.run("nothing there", "about(0)" + none, "at(0, false)" + none, "at(0, true)" + none);
        t.run("the end is no NONE where the document throws or counts", "full(1) -> " + ENDED, "number(1) -> " + ENDED,
            "text() -> " + ENDED, "skip(1) -> 0");
    }
}
