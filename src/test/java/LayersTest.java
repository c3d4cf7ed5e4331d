/** Promises 5, 15 and 16: push, what each kind of layer answers, unread and available. */
public final class LayersTest {
    public static void main(String[] args) {
        Runs t = new Runs();
        push(t);
        buffer(t);
        pushback(t);
        limit(t);
        code(t);
        lines(t);
        unread(t);
        available(t);
        failing(t);
        t.end();
    }

    private static void push(Runs t) {
        String wrong = "throws.IllegalArgumentException";
        t.run("5: wrong kinds and sizes",
            "push(0, 1) -> " + wrong, "push(6, 1) -> " + wrong, "push(-1, 1) -> " + wrong,
            "push(-2147483648, 0) -> " + wrong, "push(2147483647, 0) -> " + wrong,
            "push(1, 0) -> " + wrong, "push(1, 17) -> " + wrong, "push(1, -1) -> " + wrong,
            "push(2, 0) -> " + wrong, "push(2, 9) -> " + wrong, "push(3, -1) -> " + wrong,
            "push(3, 201) -> " + wrong, "push(4, -1) -> " + wrong, "push(4, 256) -> " + wrong,
            "push(5, 1) -> " + wrong, "push(5, -1) -> " + wrong, "about(0) -> -1");
        t.run("5: the least sizes",
            "push(1, 1) -> 0", "push(2, 1) -> 1", "push(3, 0) -> 2", "push(4, 0) -> 3", "push(5, 0) -> 4",
            "push(5, 0) -> throws.IllegalStateException", "push(5, 1) -> " + wrong, "about(4) -> 0", "about(5) -> -1");
        t.run("5: the greatest sizes",
            "push(1, 16) -> 0", "push(2, 8) -> 1", "push(3, 200) -> 2", "push(4, 255) -> 3", "push(1, 16) -> 4");
    }

    private static void buffer(Runs t) {
        t.run("BUFFER: asks below for its size and keeps the rest",
            "feed(0x01020304, 4) -> 4", "feed(0x05060708, 4) -> 8", "push(1, 4) -> 0", "some(3) -> 3",
            "about(-1) -> 4", "about(0) -> 1", "some(9) -> 1", "bag 4");
        t.run("BUFFER: a request of its size or more goes below as it is",
            "feed(0x01020304, 4) -> 4", "feed(0x05060708, 4) -> 8", "push(1, 3) -> 0", "some(5) -> 5",
            "about(-1) -> 5", "some(3) -> 3", "about(0) -> 0");
        t.run("BUFFER: just its size goes below; with a mark it does not",
            "feed(0x01020304, 4) -> 4", "feed(0x05060708, 4) -> 8", "push(1, 3) -> 0", "mark(32) -> done",
            "some(5) -> 3", "about(-1) -> 3", "bag 1 2 3");
        t.run("BUFFER: a portion fills it in part",
            "feed(0x0102, 2) -> 2", "portion() -> done", "feed(3, 1) -> 3", "push(1, 16) -> 0", "read() -> 1",
            "about(0) -> 1", "some(9) -> 1", "some(9) -> 1", "bag 3", "some(9) -> -1");
        t.run("BUFFER: the end is not kept",
            "push(1, 4) -> 0", "read() -> -1", "feed(9, 1) -> 1", "read() -> 9");
        t.run("BUFFER: filled over and over", Runs.fed(65, 120,
            "push(1, 4) -> 0", "line() -> 120", "at(119, false) -> 65", "about(0) -> 0"));
        t.run("BUFFER: the most that one keeps", Runs.fed(7, 120,
            "push(1, 16) -> 0", "read() -> 7", "about(0) -> 15", "mark(32) -> done", "full(32) -> done",
            "reset() -> done", "about(0) -> 47", "full(32) -> done", "reset() -> done", "about(0) -> 47",
            "skip(120) -> 119"));
    }

    private static void pushback(Runs t) {
        t.run("PUSHBACK: the latest first, and nothing of below with them",
            "feed(0x0102, 2) -> 2", "push(2, 3) -> 0", "unread(7) -> done", "unread(8) -> done", "unread(9) -> done",
            "some(2) -> 2", "bag 9 8", "about(0) -> 1", "some(9) -> 1", "bag 7", "some(9) -> 2", "bag 1 2");
        t.run("PUSHBACK: bytes that were put back are read at the end",
            "push(2, 1) -> 0", "read() -> -1", "unread(5) -> done", "read() -> 5", "read() -> -1");
        t.run("PUSHBACK: a line of all that five layers can hold", Runs.fed(65, 120,
            "push(2, 8) -> 0", "unread(1) -> done", "unread(1) -> done", "unread(1) -> done", "unread(1) -> done",
            "unread(1) -> done", "unread(1) -> done", "unread(1) -> done", "unread(1) -> done",
            "push(2, 8) -> 1", "unread(2) -> done", "unread(2) -> done", "unread(2) -> done", "unread(2) -> done",
            "unread(2) -> done", "unread(2) -> done", "unread(2) -> done", "unread(2) -> done",
            "push(2, 8) -> 2", "unread(3) -> done", "unread(3) -> done", "unread(3) -> done", "unread(3) -> done",
            "unread(3) -> done", "unread(3) -> done", "unread(3) -> done", "unread(3) -> done",
            "push(2, 8) -> 3", "unread(4) -> done", "unread(4) -> done", "unread(4) -> done", "unread(4) -> done",
            "unread(4) -> done", "unread(4) -> done", "unread(4) -> done", "unread(4) -> done",
            "push(2, 8) -> 4", "unread(5) -> done", "unread(5) -> done", "unread(5) -> done", "unread(5) -> done",
            "unread(5) -> done", "unread(5) -> done", "unread(5) -> done", "unread(5) -> done",
            "available() -> 160", "breakAt(120) -> true", "line() -> throws.IllegalStateException",
            "size(false) -> 160", "at(0, false) -> 5", "at(8, false) -> 4", "at(159, false) -> 65",
            "at(160, false) -> -1", "breakAt(-1) -> true", "line() -> -1"));
    }

    private static void limit(Runs t) {
        t.run("LIMIT: asks below for what is left at most",
            "feed(0x01020304, 4) -> 4", "push(3, 3) -> 0", "some(2) -> 2", "about(0) -> 1", "some(2) -> 1", "bag 3",
            "about(-1) -> 3", "some(2) -> -1", "about(0) -> 0");
        t.run("LIMIT: none left is the end, also where it is broken",
            "feed(1, 1) -> 1", "push(3, 0) -> 0", "breakAt(0) -> true", "read() -> -1");
        t.run("LIMIT: the end below takes nothing of what is left",
            "push(3, 2) -> 0", "read() -> -1", "about(0) -> 2");
        t.run("LIMIT: less is asked of a BUFFER below",
            "feed(0x01020304, 4) -> 4", "push(1, 3) -> 0", "push(3, 2) -> 1", "some(9) -> 2", "about(0) -> 1");
    }

    private static void code(Runs t) {
        t.run("CODE: key + k, the lowest eight bits",
            "feed(0, 4) -> 4", "feed(-1, 1) -> 5", "push(4, 254) -> 0", "some(2) -> 2", "bag 254 255",
            "some(2) -> 2", "bag 0 1", "read() -> 253", "about(0) -> 5", "read() -> -1", "about(0) -> 5");
        t.run("CODE: two of one key undo one another",
            "feed(0x01020304, 4) -> 4", "push(4, 77) -> 0", "push(4, 77) -> 1", "full(4) -> done", "bag 1 2 3 4");
        t.run("CODE: a later one counts from 0",
            "feed(0, 4) -> 4", "push(4, 0) -> 0", "full(2) -> done", "bag 0 1", "push(4, 0) -> 1",
            "full(2) -> done", "bag 2 2", "about(0) -> 4", "about(1) -> 2");
    }

    private static void lines(Runs t) {
        t.run("LINES: 10, 13, and 13 with 10 as one",
            "feed(0x0A0A0D0D, 4) -> 4", "feed(0x0A0A610D, 4) -> 8", "feed(0x0A0D, 2) -> 10", "push(5, 0) -> 0",
            "some(2) -> 2", "about(0) -> 2", "some(2) -> 2", "about(0) -> 4", "read() -> 10", "about(0) -> 4",
            "read() -> 10", "about(0) -> 5", "some(2) -> 2", "about(0) -> 6", "some(2) -> 2", "about(0) -> 7");
        t.run("LINES: the end between 13 and 10 changes nothing",
            "feed(13, 1) -> 1", "push(5, 0) -> 0", "read() -> 13", "read() -> -1", "feed(10, 1) -> 2", "read() -> 10",
            "about(0) -> 1");
        t.run("LINES: a byte between 13 and 10",
            "feed(0x0D610A, 3) -> 3", "push(5, 0) -> 0", "some(3) -> 3", "about(0) -> 2");
        t.run("LINES: counts what a line leaves out as no other end",
            "feed(0x0D0A61, 3) -> 3", "push(5, 0) -> 0", "line() -> 0", "read() -> 97", "about(0) -> 1");
    }

    private static void unread(Runs t) {
        String wrong = "throws.IllegalArgumentException";
        t.run("15: wrong bytes and the edges of a byte",
            "push(2, 2) -> 0", "unread(-1) -> " + wrong, "unread(256) -> " + wrong, "unread(-2147483648) -> " + wrong,
            "unread(2147483647) -> " + wrong, "about(0) -> 0", "unread(0) -> done", "unread(255) -> done",
            "unread(1) -> throws.IllegalStateException", "unread(256) -> " + wrong, "some(9) -> 2", "bag 255 0",
            "unread(1) -> done");
        t.run("15: the bag stays",
            "feed(7, 1) -> 1", "push(2, 2) -> 0", "read() -> 7", "unread(3) -> done", "bag 7");
        String no = "throws.UnsupportedOperationException";
        t.run("15: the source is no PUSHBACK", "unread(1) -> " + no, "unread(256) -> " + wrong);
        t.run("15: only the top",
            "push(2, 2) -> 0", "unread(4) -> done", "push(5, 0) -> 1", "unread(1) -> " + no, "push(1, 2) -> 2",
            "unread(1) -> " + no, "push(3, 5) -> 3", "unread(1) -> " + no, "push(4, 5) -> 4", "unread(1) -> " + no,
            "unread(-1) -> " + wrong, "about(0) -> 1");
    }

    private static void available(Runs t) {
        t.run("16: through all kinds",
            "feed(0x01020304, 4) -> 4", "portion() -> done", "feed(5, 1) -> 5", "available() -> 4",
            "push(1, 3) -> 0", "available() -> 4", "read() -> 1", "available() -> 3", "push(4, 1) -> 1",
            "available() -> 3", "push(5, 0) -> 2", "available() -> 3", "push(3, 2) -> 3", "available() -> 2",
            "push(2, 2) -> 4", "unread(9) -> done", "unread(9) -> done", "available() -> 4", "full(2) -> done",
            "available() -> 2", "full(2) -> done", "available() -> 0");
        t.run("16: a LIMIT of more than there is",
            "feed(0x0102, 2) -> 2", "push(3, 9) -> 0", "available() -> 2");
        t.run("16: the next portion when one is taken, and a broken place does not matter",
            "feed(1, 1) -> 1", "portion() -> done", "feed(0x0203, 2) -> 3", "breakAt(1) -> true", "read() -> 1",
            "available() -> 2", "portion() -> done", "available() -> 2", "push(1, 8) -> 0", "available() -> 2");
    }

    private static void failing(Runs t) {
        t.run("a request that fails changes nothing in no layer",
            "feed(0x0D0A0102, 4) -> 4", "push(1, 2) -> 0", "push(5, 0) -> 1", "push(4, 0) -> 2", "push(3, 9) -> 3",
            "mark(2) -> done", "breakAt(2) -> true", "full(2) -> done",
            "some(9) -> throws.IllegalStateException", "bag", "about(-1) -> 2", "about(0) -> 0", "about(1) -> 1",
            "about(2) -> 2", "about(3) -> 7", "reset() -> done", "about(0) -> 2", "about(3) -> 9",
            "full(3) -> throws.IllegalStateException", "bag 13 11", "breakAt(-1) -> true", "full(2) -> done",
            "bag 3 1");
    }
}
