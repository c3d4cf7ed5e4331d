/** Promises 1 to 4 and 17 to 20: a new object, feed, portion, breakAt, close, about, size and at. */
public final class SourceTest {
    public static void main(String[] args) {
        Runs t = new Runs();
        newObject(t);
        feed(t);
        portion(t);
        breakAt(t);
        close(t);
        about(t);
        sizeAndAt(t);
        t.end();
    }

    private static void newObject(Runs t) {
        t.run("1: empty source, no layers, empty bag",
            "about(-1) -> 0", "about(0) -> -1", "available() -> 0", "bag", "letters",
            "at(0, false) -> -1", "at(0, true) -> -1", "read() -> -1", "push(5, 0) -> 0");
        t.run("1: one portion",
            "feed(1, 1) -> 1", "feed(2, 1) -> 2", "available() -> 2", "some(9) -> 2");
        t.run("1: open", "full(0) -> done");
    }

    private static void feed(Runs t) {
        t.run("2: the highest of the n lowest first",
            "feed(0x01020304, 4) -> 4", "feed(0x0506, 1) -> 5", "feed(-2, 2) -> 7", "feed(0x7F808182, 3) -> 10",
            "full(10) -> done", "bag 1 2 3 4 6 255 254 128 129 130");
        t.run("2: wrong numbers of bytes",
            "feed(1, 0) -> throws.IllegalArgumentException", "feed(1, 5) -> throws.IllegalArgumentException",
            "feed(1, -1) -> throws.IllegalArgumentException",
            "feed(1, -2147483648) -> throws.IllegalArgumentException",
            "feed(1, 2147483647) -> throws.IllegalArgumentException", "available() -> 0");
        t.run("2: room for 120, taken or not", Runs.fed(7, 117,
            "skip(100) -> 100", "feed(0, 4) -> throws.IllegalStateException", "available() -> 17",
            "feed(1, 3) -> 120", "feed(1, 1) -> throws.IllegalStateException",
            "feed(1, 5) -> throws.IllegalArgumentException", "feed(1, 0) -> throws.IllegalArgumentException",
            "skip(120) -> 20", "feed(1, 1) -> throws.IllegalStateException", "about(-1) -> 120"));
    }

    private static void portion(Runs t) {
        t.run("3: a request ends with the portion",
            "feed(0x0102, 2) -> 2", "portion() -> done", "feed(0x03, 1) -> 3", "portion() -> done",
            "feed(0x0405, 2) -> 5", "feed(6, 1) -> 6", "available() -> 2", "some(9) -> 2", "bag 1 2",
            "available() -> 1", "some(9) -> 1", "available() -> 3", "some(2) -> 2", "available() -> 1",
            "some(9) -> 1", "some(9) -> -1");
        t.run("3: an empty last portion stays the last one",
            "portion() -> done", "portion() -> done", "feed(1, 1) -> 1", "feed(2, 1) -> 2", "portion() -> done",
            "portion() -> done", "some(9) -> 2", "portion() -> done", "feed(0x0304, 2) -> 4", "some(9) -> 2");
        t.run("3: what is fed later comes into the portion that is taken in part",
            "feed(0x0102, 2) -> 2", "read() -> 1", "feed(3, 1) -> 3", "available() -> 2", "some(9) -> 2",
            "feed(4, 1) -> 4", "available() -> 1");
        t.run("3: at the last place", Runs.fed(7, 120,
            "portion() -> done", "some(60) -> 60", "skip(120) -> 60", "portion() -> done", "read() -> -1"));
    }

    private static void breakAt(Runs t) {
        t.run("4: fails at a broken place until it is mended",
            "feed(0x01020304, 4) -> 4", "breakAt(2) -> true", "full(2) -> done",
            "read() -> throws.IllegalStateException", "read() -> throws.IllegalStateException",
            "about(-1) -> 2", "available() -> 2", "breakAt(-1) -> true", "read() -> 3");
        t.run("4: at this place, too; -1 mends all",
            "feed(0x0102, 2) -> 2", "breakAt(0) -> true", "breakAt(1) -> true", "breakAt(0) -> true",
            "read() -> throws.IllegalStateException", "breakAt(-1) -> true", "read() -> 1", "read() -> 2");
        t.run("4: a request passes over a broken place",
            "feed(0x01020304, 4) -> 4", "breakAt(2) -> true", "some(4) -> 4", "read() -> -1");
        t.run("4: broken comes before the end",
            "breakAt(0) -> true", "read() -> throws.IllegalStateException", "breakAt(-1) -> true", "read() -> -1");
        t.run("4: refused places",
            "breakAt(-2) -> false", "breakAt(121) -> false", "breakAt(-2147483648) -> false",
            "breakAt(2147483647) -> false", "read() -> -1");
        t.run("4: place 120", Runs.fed(7, 120,
            "breakAt(120) -> true", "skip(120) -> 120", "read() -> throws.IllegalStateException",
            "breakAt(-1) -> true", "read() -> -1"));
    }

    private static void close(Runs t) {
        String closed = "throws.IllegalStateException";
        t.run("17: closed comes first of all in calls that read, mark, reset and unread",
            "feed(0x0102, 2) -> 2", "push(2, 1) -> 0", "full(2) -> done", "close() -> done", "bag 1 2",
            "mark(99) -> " + closed, "mark(1) -> " + closed, "reset() -> " + closed, "unread(256) -> " + closed,
            "unread(1) -> " + closed, "bag 1 2", "read() -> " + closed, "bag", "some(0) -> " + closed,
            "full(-1) -> " + closed, "full(0) -> " + closed, "skip(-1) -> " + closed, "skip(0) -> " + closed,
            "number(0) -> " + closed, "text() -> " + closed, "line() -> " + closed);
        t.run("17: what goes on when closed",
            "feed(0x0102, 2) -> 2", "push(1, 2) -> 0", "read() -> 1", "close() -> done", "close() -> done",
            "feed(3, 1) -> 3", "portion() -> done", "breakAt(1) -> true", "breakAt(121) -> false",
            "available() -> 2", "about(0) -> 1", "about(-1) -> 2", "size(false) -> 1", "at(0, false) -> 1",
            "push(1, 0) -> throws.IllegalArgumentException", "push(1, 1) -> " + closed);
        for (String call : new String[] {"some(1)", "full(1)", "skip(1)", "number(1)", "text()", "line()", "read()"}) {
            t.run("17: the bag is emptied by a closed " + call,
                "feed(0x01, 1) -> 1", "read() -> 1", "bag 1", "close() -> done", call + " -> " + closed, "bag");
        }
    }

    private static void about(Runs t) {
        t.run("18: each kind",
            "feed(0x0D0A0D61, 4) -> 4", "feed(0x62636465, 4) -> 8",
            "push(1, 6) -> 0", "push(5, 0) -> 1", "push(4, 0) -> 2", "push(3, 9) -> 3", "push(2, 3) -> 4",
            "about(0) -> 0", "about(1) -> 0", "about(2) -> 0", "about(3) -> 9", "about(4) -> 0", "about(-1) -> 0",
            "full(3) -> done", "unread(1) -> done", "unread(2) -> done",
            "about(0) -> 3", "about(1) -> 2", "about(2) -> 3", "about(3) -> 6", "about(4) -> 2", "about(-1) -> 6");
        t.run("18: no such layer",
            "push(3, 9) -> 0", "about(0) -> 9", "about(1) -> -1", "about(5) -> -1", "about(-2) -> -1",
            "about(2147483647) -> -1", "about(-2147483648) -> -1");
    }

    private static void sizeAndAt(Runs t) {
        t.run("19 and 20: the bag and the letters",
            "feed(0x0002, 2) -> 2", "feed(0xC3A4, 2) -> 4", "text() -> 1", "size(false) -> 4", "size(true) -> 1",
            "at(0, false) -> 0", "at(3, false) -> 164", "at(4, false) -> -1", "at(-1, false) -> -1",
            "at(0, true) -> 228", "at(1, true) -> -1", "at(-1, true) -> -1",
            "at(2147483647, false) -> -1", "at(-2147483648, true) -> -1",
            "at(2147483647, true) -> -1", "at(-2147483648, false) -> -1");
        t.run("19 and 20: what is left of a longer bag is not there",
            "feed(0x01020304, 4) -> 4", "full(3) -> done", "read() -> 4", "size(false) -> 1", "at(1, false) -> -1");
    }
}
