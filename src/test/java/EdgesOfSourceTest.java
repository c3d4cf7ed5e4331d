/** What the document's sentences say at their edges: the source, a new object, feed, portion and breakAt. */
public final class EdgesOfSourceTest {
    private static final String WRONG = "throws.IllegalArgumentException";
    private static final String STATE = "throws.IllegalStateException";
    private static final String CAN_NOT = "throws.UnsupportedOperationException";
    private static final String ENDED = "throws.NoSuchElementException";

    public static void main(String[] args) {
        Runs t = new Runs();
        row(t);
        lastPortion(t);
        brokenSource(t);
        endOfSource(t);
        portionFromThereOn(t);
        newObject(t);
        fedBytes(t);
        fedNumbers(t);
        fedRoom(t);
        portion(t);
        breakAt(t);
        breakAtRefused(t);
        t.end();
    }

    private static void row(Runs t) {
        t.says("Terms", "THE SOURCE has a row of at most 120 bytes in PORTIONS, of which so many are TAKEN");
        t.run("120", Runs.fed(7, 119, "feed(9, 1) -> 120", "available() -> 120", "about(-1) -> 0", "skip(119) -> 119",
            "about(-1) -> 119", "read() -> 9", "about(-1) -> 120", "read() -> -1", "about(-1) -> 120"));
        t.run("121", Runs.fed(7, 120, "feed(9, 1) -> " + STATE, "available() -> 120", "skip(120) -> 120",
            "read() -> -1", "about(-1) -> 120"));
        t.run("taken bytes make no room", Runs.fed(7, 120, "skip(120) -> 120", "feed(9, 1) -> " + STATE,
            "available() -> 0", "read() -> -1"));
    }

    private static void lastPortion(Runs t) {
        t.says("Terms", "bytes come behind those that are there, in the last portion");
        t.run("nothing of it taken", "feed(1, 1) -> 1", "feed(2, 1) -> 2", "some(9) -> 2", "bag 1 2");
        t.run("some of it taken", "feed(0x0102, 2) -> 2", "read() -> 1", "feed(3, 1) -> 3", "some(9) -> 2", "bag 2 3");
        t.run("all of it taken", "feed(1, 1) -> 1", "read() -> 1", "feed(2, 1) -> 2", "feed(3, 1) -> 3",
            "some(9) -> 2", "bag 2 3");
        t.run("not the first portion", "feed(1, 1) -> 1", "portion() -> done", "feed(2, 1) -> 2", "feed(3, 1) -> 3",
            "some(9) -> 1", "bag 1", "some(9) -> 2", "bag 2 3");
    }

    private static void brokenSource(Runs t) {
        t.says("Terms, SOURCE", "when it is broken at the place that is taken, it fails");
        String[] two = {"feed(0x0102, 2) -> 2", "read() -> 1"};
        t.run("at the place", Runs.rows(two, "breakAt(1) -> true", "read() -> " + STATE));
        t.run("one before it", Runs.rows(two, "breakAt(0) -> true", "read() -> 2"));
        t.run("one behind it", Runs.rows(two, "breakAt(2) -> true", "read() -> 2", "read() -> " + STATE));
        t.run("one behind it, of a request of more", "feed(0x010203, 3) -> 3", "breakAt(1) -> true", "some(9) -> 3",
            "bag 1 2 3", "read() -> -1");
        t.run("at the first place of a later portion", "feed(1, 1) -> 1", "portion() -> done", "feed(2, 1) -> 2",
            "breakAt(1) -> true", "some(9) -> 1", "some(9) -> " + STATE);
        t.run("it fails again and again", Runs.rows(two, "breakAt(1) -> true", "read() -> " + STATE,
            "read() -> " + STATE, "about(-1) -> 1"));
        t.says("Terms", "SOURCE: when it is broken at the place that is taken, it fails; when all is taken, the end");
        t.run("both: broken comes first", "breakAt(0) -> true", "read() -> " + STATE);
        t.run("both, behind bytes", Runs.rows(two, "read() -> 2", "breakAt(2) -> true", "read() -> " + STATE));
        t.run("broken one behind the end", Runs.rows(two, "read() -> 2", "breakAt(3) -> true", "read() -> -1",
            "feed(3, 1) -> 3", "read() -> 3", "read() -> " + STATE));
    }

    private static void endOfSource(Runs t) {
        t.says("Terms, SOURCE", "when all is taken, the end");
        t.run("none there", "read() -> -1", "some(60) -> -1", "line() -> -1", "skip(1) -> 0", "full(1) -> " + ENDED);
        t.run("one left", "feed(0x0102, 2) -> 2", "read() -> 1", "read() -> 2", "read() -> -1");
        t.run("an empty last portion is no byte", "feed(1, 1) -> 1", "portion() -> done", "read() -> 1",
            "read() -> -1");
        t.run("the end is over when bytes come", "read() -> -1", "feed(1, 1) -> 1", "read() -> 1", "read() -> -1",
            "portion() -> done", "read() -> -1", "feed(2, 1) -> 2", "read() -> 2");
    }

    private static void portionFromThereOn(Runs t) {
        t.says("Terms, SOURCE", "otherwise so many as the portion has from there on, at most n");
        String[] portions = {"feed(0x010203, 3) -> 3", "portion() -> done", "feed(0x040506, 3) -> 6"};
        t.run("n one less than the portion", Runs.rows(portions, "some(2) -> 2", "bag 1 2", "about(-1) -> 2"));
        t.run("n as the portion", Runs.rows(portions, "some(3) -> 3", "bag 1 2 3", "about(-1) -> 3"));
        t.run("n one more than the portion", Runs.rows(portions, "some(4) -> 3", "bag 1 2 3", "about(-1) -> 3"));
        t.run("from the second byte on", Runs.rows(portions, "read() -> 1", "some(3) -> 2", "bag 2 3"));
        t.run("from the last byte on", Runs.rows(portions, "skip(2) -> 2", "some(2) -> 1", "bag 3"));
        t.run("from the next portion's first byte on", Runs.rows(portions, "skip(3) -> 3", "some(4) -> 3",
            "bag 4 5 6"));
        t.run("portions of one byte", "feed(1, 1) -> 1", "portion() -> done", "feed(2, 1) -> 2", "portion() -> done",
            "feed(3, 1) -> 3", "some(2) -> 1", "bag 1", "some(2) -> 1", "bag 2", "some(2) -> 1", "bag 3",
            "some(2) -> -1");
    }

    private static void newObject(Runs t) {
        t.says("Promise 1", "An empty source with one portion, no layers, open, an empty bag.");
        t.run("an empty source", "about(-1) -> 0", "available() -> 0", "read() -> -1");
        t.run("it has no place that is broken", Runs.fed(7, 120, "line() -> 120", "read() -> -1"));
        t.run("with one portion", "portion() -> done", "feed(1, 1) -> 1", "feed(2, 1) -> 2", "some(9) -> 2");
        t.run("no layers", "about(0) -> -1", "unread(1) -> " + CAN_NOT, "push(5, 0) -> 0");
        t.run("open", "full(0) -> done", "mark(0) -> " + CAN_NOT, "reset() -> " + CAN_NOT);
        t.run("an empty bag", "size(false) -> 0", "at(0, false) -> -1");
        t.run("no text was read", "size(true) -> 0", "at(0, true) -> -1");
        t.run("no line was read", "feed(10, 1) -> 1", "read() -> 10");
    }

    private static void fedBytes(Runs t) {
        t.says("Promise 2", "Puts the n lowest bytes of w, the highest of these first, behind the source's bytes");
        t.run("1 of 4", "feed(0x01020304, 1) -> 1", "some(9) -> 1", "bag 4");
        t.run("2 of 4", "feed(0x01020304, 2) -> 2", "some(9) -> 2", "bag 3 4");
        t.run("3 of 4", "feed(0x01020304, 3) -> 3", "some(9) -> 3", "bag 2 3 4");
        t.run("4 of 4", "feed(0x01020304, 4) -> 4", "some(9) -> 4", "bag 1 2 3 4");
        t.run("the greatest byte and one more", "feed(255, 1) -> 1", "feed(256, 1) -> 2", "some(9) -> 2", "bag 255 0");
        t.run("the greatest of two and one more", "feed(65535, 2) -> 2", "feed(65536, 2) -> 4", "some(9) -> 4",
            "bag 255 255 0 0");
        t.run("the greatest of three and one more", "feed(16777215, 3) -> 3", "feed(16777216, 3) -> 6", "some(9) -> 6",
            "bag 255 255 255 0 0 0");
        t.run("the greatest w and the least", "feed(2147483647, 4) -> 4", "feed(-2147483648, 4) -> 8", "some(9) -> 8",
            "bag 127 255 255 255 128 0 0 0");
        t.run("-1 and -2", "feed(-1, 4) -> 4", "feed(-2, 1) -> 5", "some(9) -> 5", "bag 255 255 255 255 254");
        t.run("behind taken bytes", "feed(1, 1) -> 1", "read() -> 1", "feed(2, 1) -> 2", "read() -> 2");
        t.says("Promise 2", "how many it has then");
        t.run("taken ones are counted, too", "feed(0x0102, 2) -> 2", "skip(2) -> 2", "feed(3, 1) -> 3",
            "feed(0x04050607, 4) -> 7");
        t.run("of all portions", "feed(1, 1) -> 1", "portion() -> done", "feed(2, 1) -> 2");
    }

    private static void fedNumbers(Runs t) {
        t.says("Promise 2", "IllegalArgumentException when n is not 1 .. 4");
        t.run("1", "feed(7, 1) -> 1");
        t.run("4", "feed(7, 4) -> 4");
        for (String n : new String[] {"0", "5", "-1", "-4", "2147483647", "-2147483648"}) {
            t.unchanged("n is " + n, "feed(7, " + n + ") -> " + WRONG, "feed(0x0102, 2) -> 2", "read() -> 1");
        }
        t.run("0 with w 0", "feed(0, 0) -> " + WRONG);
    }

    private static void fedRoom(Runs t) {
        t.says("Promise 2", "IllegalStateException when there is no room for them");
        for (int n = 1; n <= 4; n++) {
            t.run("just room for " + n, Runs.fed(7, 120 - n, "feed(-1, " + n + ") -> 120", "skip(120) -> 120"));
            t.unchanged("one too few for " + n, "feed(-1, " + n + ") -> " + STATE,
                Runs.fed(7, 121 - n, "read() -> 7"));
        }
        t.run("less may still be put", Runs.fed(7, 117, "feed(1, 4) -> " + STATE, "feed(0x010203, 3) -> 120",
            "skip(117) -> 117", "some(9) -> 3", "bag 1 2 3"));
    }

    private static void portion(Runs t) {
        t.says("Promise 3", "What is fed from now on is a new portion (if the last one has bytes).");
        t.run("the last one has one byte", "feed(1, 1) -> 1", "portion() -> done", "feed(2, 1) -> 2",
            "available() -> 1", "some(9) -> 1", "some(9) -> 1");
        t.run("the last one has none, at first", "portion() -> done", "feed(1, 1) -> 1", "feed(2, 1) -> 2",
            "available() -> 2", "some(9) -> 2");
        t.run("the last one has none, a second time", "feed(1, 1) -> 1", "portion() -> done", "portion() -> done",
            "feed(2, 1) -> 2", "feed(3, 1) -> 3", "some(9) -> 1", "available() -> 2", "some(9) -> 2", "some(9) -> -1");
        t.run("what was fed before stays one portion", "feed(0x0102, 2) -> 2", "portion() -> done", "some(9) -> 2");
        t.run("in the midst of taking", "feed(0x0102, 2) -> 2", "read() -> 1", "portion() -> done", "feed(3, 1) -> 3",
            "some(9) -> 1", "bag 2", "some(9) -> 1", "bag 3");
        t.run("a refused feed leaves the new portion", Runs.fed(7, 117, "portion() -> done", "feed(1, 4) -> " + STATE,
            "feed(1, 1) -> 118", "feed(2, 1) -> 119", "skip(115) -> 115", "some(9) -> 2", "some(9) -> 2", "bag 1 2"));
        t.run("behind the first byte and before the last of 120", Runs.rows("feed(1, 1) -> 1", "portion() -> done",
            Runs.fedBehind(1, 7, 118), "portion() -> done", "feed(9, 1) -> 120", "some(60) -> 1", "bag 1",
            "some(60) -> 60", "some(60) -> 58", "some(60) -> 1", "bag 9", "some(60) -> -1"));
        t.run("behind 120", Runs.fed(7, 120, "portion() -> done", "portion() -> done", "available() -> 120",
            "skip(120) -> 120", "portion() -> done", "available() -> 0", "read() -> -1"));
    }

    private static void breakAt(Runs t) {
        t.says("Terms", "It may be BROKEN at some places.");
        t.run("at none and at all", "feed(0x0102, 2) -> 2", "read() -> 1", "breakAt(0) -> true", "breakAt(1) -> true",
            "breakAt(2) -> true", "read() -> " + STATE);
        t.says("Promise 4", "The source is broken at this place, too, from now on");
        t.run("the first place", "feed(0x0102, 2) -> 2", "breakAt(0) -> true", "line() -> " + STATE, "bag");
        t.run("the last place that can have a byte", Runs.fed(7, 120, "breakAt(119) -> true", "line() -> " + STATE,
            "size(false) -> 119"));
        t.run("the place behind it", Runs.fed(7, 120, "breakAt(120) -> true", "line() -> " + STATE,
            "size(false) -> 120"));
        t.run("two places, one fed later", "breakAt(1) -> true", "breakAt(0) -> true", "feed(0x0102, 2) -> 2",
            "read() -> " + STATE, "breakAt(-1) -> true", "breakAt(1) -> true", "breakAt(2) -> true", "read() -> 1",
            "read() -> " + STATE);
        t.run("a place twice is broken once", "feed(1, 1) -> 1", "breakAt(0) -> true", "breakAt(0) -> true",
            "breakAt(-1) -> true", "read() -> 1");
        t.run("a place that is taken", "feed(0x0102, 2) -> 2", "read() -> 1", "breakAt(0) -> true", "read() -> 2");
        t.says("Promise 4", "with place -1 at none");
        t.run("the first and the last", Runs.fed(7, 120, "breakAt(0) -> true", "breakAt(119) -> true",
            "breakAt(120) -> true", "breakAt(-1) -> true", "line() -> 120", "line() -> -1"));
        t.run("none was broken", "breakAt(-1) -> true", "read() -> -1");
        t.run("broken anew", "feed(1, 1) -> 1", "breakAt(0) -> true", "breakAt(-1) -> true", "breakAt(0) -> true",
            "read() -> " + STATE);
    }

    private static void breakAtRefused(Runs t) {
        t.says("Promise 4", "False, refused, when place is not -1 .. 120.");
        for (String place : new String[] {"-1", "0", "119", "120"}) {
            t.run("inside", "breakAt(" + place + ") -> true");
        }
        for (String place : new String[] {"-2", "121", "122", "-2147483648", "2147483647"}) {
            String refused = "breakAt(" + place + ") -> false";
            t.unchanged("none is broken by " + place, refused, "feed(0x0102, 2) -> 2", "read() -> 1");
            t.unchanged("none is mended by " + place, refused, "feed(0x0102, 2) -> 2", "breakAt(0) -> true",
                "breakAt(2) -> true");
            t.run("not the last place by " + place, Runs.fed(7, 120, refused, "line() -> 120", "read() -> -1"));
        }
    }
}
