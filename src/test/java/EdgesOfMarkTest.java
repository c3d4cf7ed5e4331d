/** What the document's sentences say at their edges: mark and reset. */
public final class EdgesOfMarkTest {
    private static final String WRONG = "throws.IllegalArgumentException";
    private static final String STATE = "throws.IllegalStateException";
    private static final String CAN_NOT = "throws.UnsupportedOperationException";

    private static final String[] EIGHT = {"feed(0x01020304, 4) -> 4", "feed(0x05060708, 4) -> 8"};
    private static final String[] PASSING = {"push(3, 50)", "push(4, 0)", "push(5, 0)"};

    public static void main(String[] args) {
        Runs t = new Runs();
        limit(t);
        keptSinceMark(t);
        markGone(t);
        goingBack(t);
        newMark(t);
        remembered(t);
        rememberedOfLines(t);
        whatCanNot(t);
        markThatCanNot(t);
        whenNew(t);
        leftOut(t);
        reset(t);
        t.end();
    }

    private static void limit(Runs t) {
        t.says("Promise 13", "IllegalArgumentException when limit is not 0 .. 32");
        t.run("0", "push(1, 4) -> 0", "mark(0) -> done", "reset() -> done");
        t.run("32", "push(1, 4) -> 0", "mark(32) -> done", "reset() -> done");
        for (String limit : new String[] {"-1", "33", "-32", "2147483647", "-2147483648"}) {
            String refused = "mark(" + limit + ") -> " + WRONG;
            t.unchanged("no mark by " + limit, refused, Runs.rows(EIGHT, "push(1, 4) -> 0", "read() -> 1"));
            t.unchanged("the earlier mark stays behind " + limit, refused, Runs.rows(EIGHT, "push(1, 4) -> 0",
                "mark(3) -> done", "read() -> 1"));
            t.unchanged("what layers remember stays behind " + limit, refused, Runs.rows(EIGHT, "push(1, 4) -> 0",
                "push(5, 0) -> 1", "push(4, 0) -> 2", "push(3, 9) -> 3", "mark(3) -> done", "read() -> 1"));
            t.run("the bag stays behind " + limit, Runs.rows(EIGHT, "push(1, 4) -> 0", "read() -> 1", refused,
                "bag 1"));
        }
    }

    private static void keptSinceMark(Runs t) {
        t.says("Terms, BUFFER", "With a MARK it also keeps all bytes that it gave since it was marked, as long as "
            + "these are not more than the mark's limit");
        for (int limit : new int[] {0, 1, 2, 15, 16, 17, 31, 32}) {
            for (int size : new int[] {1, 2, 15, 16}) {
                String[] marked = Runs.fed(7, 60, "push(1, " + size + ") -> 0", "mark(" + limit + ") -> done");
                t.run("size " + size + ", just the limit " + limit, Runs.rows(marked, "full(" + limit + ") -> done",
                    "reset() -> done", "skip(" + limit + ") -> " + limit, "reset() -> done", "skip(60) -> 60"));
                t.run("size " + size + ", one more than the limit " + limit, Runs.rows(marked,
                    "full(" + (limit + 1) + ") -> done", "reset() -> " + STATE, "skip(60) -> " + (59 - limit)));
            }
        }
        t.run("one by one", Runs.rows(EIGHT, "push(1, 3) -> 0", "mark(2) -> done", "read() -> 1", "read() -> 2",
            "reset() -> done", "read() -> 1", "read() -> 2", "read() -> 3", "reset() -> " + STATE));
        t.run("given bytes count, not those still to be given", Runs.rows(EIGHT, "push(1, 8) -> 0", "mark(1) -> done",
            "read() -> 1", "about(0) -> 7", "reset() -> done", "about(0) -> 8"));
        t.run("bytes that were given before the mark do not count", Runs.rows(EIGHT, "push(1, 8) -> 0",
            "full(5) -> done", "mark(1) -> done", "read() -> 6", "reset() -> done", "some(9) -> 3", "bag 6 7 8"));
        t.run("the end and a failure give none", "feed(1, 1) -> 1", "push(1, 4) -> 0", "mark(1) -> done", "read() -> 1",
            "read() -> -1", "breakAt(1) -> true", "read() -> " + STATE, "reset() -> done", "read() -> 1");
        t.run("what is left out was given", "feed(0x0D0A61, 3) -> 3", "push(1, 4) -> 0", "line() -> 0",
            "mark(1) -> done", "read() -> 97", "reset() -> " + STATE);
    }

    private static void markGone(Runs t) {
        t.says("Terms, BUFFER", "when they become more, the mark is gone (and so are they)");
        String[] gone = Runs.rows(EIGHT, "push(1, 3) -> 0", "mark(1) -> done", "some(2) -> 2");
        t.run("the others are still given", Runs.rows(gone, "reset() -> " + STATE, "about(0) -> 1", "read() -> 3"));
        t.run("a request goes below again", Runs.rows(gone, "some(9) -> 1", "some(5) -> 5", "about(-1) -> 8"));
        t.run("it may be marked again, from there on", Runs.rows(gone, "mark(1) -> done", "read() -> 3",
            "reset() -> done", "read() -> 3"));
        t.run("it is gone by one answer of many", Runs.fed(7, 60, "push(1, 16) -> 0", "mark(8) -> done",
            "some(60) -> 16", "reset() -> " + STATE, "about(0) -> 0"));
        t.run("it is not back when the next reset comes", Runs.rows(gone, "reset() -> " + STATE, "reset() -> " + STATE,
            "read() -> 3"));
    }

    private static void goingBack(Runs t) {
        t.says("Terms, BUFFER", "To go back means to have all of these still to be given, before the others; "
            + "the mark stays, with none given since.");
        String[] marked = Runs.rows(EIGHT, "push(1, 3) -> 0", "mark(4) -> done");
        t.run("none given", Runs.rows(marked, "reset() -> done", "about(0) -> 0", "available() -> 8", "read() -> 1"));
        t.run("one given, two others", Runs.rows(marked, "read() -> 1", "reset() -> done", "about(0) -> 3",
            "some(9) -> 3", "bag 1 2 3"));
        t.run("four given of two fillings, two others", Runs.rows(marked, "full(4) -> done", "reset() -> done",
            "about(0) -> 6", "some(9) -> 6", "bag 1 2 3 4 5 6"));
        t.run("the most: 32 and 15 others", Runs.fed(7, 60, "push(1, 16) -> 0", "read() -> 7", "mark(32) -> done",
            "full(32) -> done", "reset() -> done", "about(0) -> 47", "some(60) -> 47", "reset() -> " + STATE,
            "skip(120) -> 12"));
        t.run("with none given since: just the limit again", Runs.rows(marked, "full(4) -> done", "reset() -> done",
            "full(4) -> done", "reset() -> done", "full(4) -> done", "bag 1 2 3 4", "reset() -> done",
            "full(5) -> done", "reset() -> " + STATE));
        t.run("twice at once", Runs.rows(marked, "read() -> 1", "reset() -> done", "reset() -> done", "about(0) -> 3",
            "read() -> 1"));
        t.run("the source stays taken", Runs.rows(marked, "full(4) -> done", "reset() -> done", "about(-1) -> 6"));
        t.run("a part is given, then it is marked anew", Runs.rows(marked, "full(4) -> done", "reset() -> done",
            "read() -> 1", "mark(32) -> done", "full(7) -> done", "bag 2 3 4 5 6 7 8", "reset() -> done",
            "about(0) -> 7", "full(7) -> done", "bag 2 3 4 5 6 7 8"));
    }

    private static void newMark(Runs t) {
        t.says("Promise 13", "Marks the top with a limit");
        t.run("the top, not a BUFFER below it", Runs.rows(EIGHT, "push(1, 2) -> 0", "push(1, 2) -> 1",
            "mark(2) -> done", "full(2) -> done", "reset() -> done", "about(1) -> 2", "about(0) -> 0", "some(9) -> 2",
            "bag 1 2", "full(1) -> done", "reset() -> " + STATE));
        t.says("Terms", "To MARK the top: BUFFER takes the mark, with its limit, forgetting one that it has");
        t.run("a smaller limit", Runs.rows(EIGHT, "push(1, 4) -> 0", "mark(9) -> done", "read() -> 1",
            "mark(1) -> done", "read() -> 2", "reset() -> done", "full(2) -> done", "bag 2 3", "reset() -> " + STATE));
        t.run("a greater limit", Runs.rows(EIGHT, "push(1, 4) -> 0", "mark(1) -> done", "read() -> 1",
            "mark(2) -> done", "full(2) -> done", "reset() -> done", "full(2) -> done", "bag 2 3"));
        t.run("at the same place", Runs.rows(EIGHT, "push(1, 4) -> 0", "mark(0) -> done", "mark(1) -> done",
            "read() -> 1", "reset() -> done", "read() -> 1"));
        t.run("a limit of 0", Runs.rows(EIGHT, "push(1, 4) -> 0", "mark(9) -> done", "read() -> 1", "mark(0) -> done",
            "reset() -> done", "read() -> 2", "reset() -> " + STATE));
    }

    private static void remembered(Runs t) {
        t.says("Terms", "LIMIT, CODE and LINES mark what is below and remember what is left, k, "
            + "and the count with whether a 13 was last");
        t.run("a LIMIT with one left and none left", Runs.rows(EIGHT, "push(1, 4) -> 0", "push(3, 2) -> 1",
            "read() -> 1", "mark(9) -> done", "read() -> 2", "about(1) -> 0", "read() -> -1", "reset() -> done",
            "about(1) -> 1", "read() -> 2", "read() -> -1"));
        t.run("a LIMIT with none left", Runs.rows(EIGHT, "push(1, 4) -> 0", "push(3, 1) -> 1", "read() -> 1",
            "mark(9) -> done", "reset() -> done", "about(1) -> 0", "read() -> -1"));
        t.run("a CODE before and behind its wrap-around", "feed(0, 4) -> 4", "push(1, 4) -> 0", "push(4, 254) -> 1",
            "read() -> 254", "mark(9) -> done", "some(9) -> 3", "bag 255 0 1", "reset() -> done", "about(1) -> 1",
            "some(9) -> 3", "bag 255 0 1", "about(1) -> 4");
        t.run("a count of 0 and of 1", "feed(0x0A0A, 2) -> 2", "push(1, 4) -> 0", "push(5, 0) -> 1", "mark(9) -> done",
            "read() -> 10", "about(1) -> 1", "reset() -> done", "about(1) -> 0", "read() -> 10", "mark(9) -> done",
            "read() -> 10", "reset() -> done", "about(1) -> 1");
        t.run("all five through one another", Runs.rows("feed(0x0A0A0A0A, 4) -> 4", "push(1, 4) -> 0",
            "push(5, 0) -> 1", "push(4, 0) -> 2", "push(3, 9) -> 3", "push(5, 0) -> 4", "read() -> 10",
            "mark(3) -> done", "full(3) -> done", "about(1) -> 4", "about(2) -> 4", "about(3) -> 5", "about(4) -> 1",
            "reset() -> done", "about(0) -> 3", "about(1) -> 1", "about(2) -> 1", "about(3) -> 8", "about(4) -> 1"));
        t.run("the mark's limit goes down with it", Runs.rows(EIGHT, "push(1, 4) -> 0", "push(3, 9) -> 1",
            "mark(2) -> done", "full(2) -> done", "reset() -> done", "full(3) -> done", "reset() -> " + STATE,
            "about(1) -> 6"));
        t.run("a layer below the BUFFER does not", Runs.rows(EIGHT, "push(3, 9) -> 0", "push(1, 4) -> 1",
            "mark(9) -> done", "read() -> 1", "reset() -> done", "about(0) -> 5"));
    }

    private static void rememberedOfLines(Runs t) {
        t.says("Terms", "and the count with whether a 13 was last");
        t.run("a 13 was last", "feed(0x0D0A0A, 3) -> 3", "push(1, 4) -> 0", "push(5, 0) -> 1", "read() -> 13",
            "mark(9) -> done", "read() -> 10", "read() -> 10", "about(1) -> 2", "reset() -> done", "about(1) -> 1",
            "read() -> 10", "about(1) -> 1", "read() -> 10", "about(1) -> 2");
        t.run("none was last", "feed(0x0A0D, 2) -> 2", "push(1, 4) -> 0", "push(5, 0) -> 1", "mark(9) -> done",
            "some(9) -> 2", "about(1) -> 2", "reset() -> done", "read() -> 10", "about(1) -> 1");
        t.run("another was last", "feed(0x0D610A0D, 4) -> 4", "push(1, 4) -> 0", "push(5, 0) -> 1", "some(2) -> 2",
            "mark(9) -> done", "some(9) -> 2", "about(1) -> 3", "reset() -> done", "read() -> 10", "about(1) -> 2");
    }

    private static void whatCanNot(Runs t) {
        t.says("Terms", "PUSHBACK and the source can not.");
        canNot(t, "the source", EIGHT);
        canNot(t, "a PUSHBACK", Runs.rows(EIGHT, "push(2, 4) -> 0"));
        canNot(t, "a PUSHBACK over a marked BUFFER", Runs.rows(EIGHT, "push(1, 4) -> 0", "mark(9) -> done",
            "read() -> 1", "push(2, 4) -> 1"));
        for (String layer : PASSING) {
            canNot(t, layer + " over the source", Runs.rows(EIGHT, layer + " -> 0", "read() -> 1"));
            canNot(t, layer + " over a PUSHBACK over a marked BUFFER", Runs.rows(EIGHT, "push(1, 4) -> 0",
                "mark(9) -> done", "read() -> 1", "push(2, 4) -> 1", layer + " -> 2", "some(2) -> 2"));
            t.run(layer + " over a BUFFER can", Runs.rows(EIGHT, "push(1, 4) -> 0", layer + " -> 1", "mark(9) -> done",
                "some(9) -> 4", "reset() -> done", "about(0) -> 4"));
            t.run(layer + " over a BUFFER over a PUSHBACK can", Runs.rows(EIGHT, "push(2, 4) -> 0", "push(1, 4) -> 1",
                layer + " -> 2", "mark(9) -> done", "some(9) -> 4", "reset() -> done", "about(1) -> 4"));
        }
    }

    private static void markThatCanNot(Runs t) {
        t.says("Promise 13", "UnsupportedOperationException when the top can not be marked");
        t.run("the source, then a BUFFER, then a PUSHBACK", Runs.rows(EIGHT, "mark(9) -> " + CAN_NOT, "push(1, 4) -> 0",
            "mark(9) -> done", "read() -> 1", "push(2, 1) -> 1", "mark(9) -> " + CAN_NOT));
        for (String layer : PASSING) {
            t.run(layer + " over the source, then over a BUFFER", Runs.rows(EIGHT, layer + " -> 0",
                "mark(9) -> " + CAN_NOT, "push(1, 4) -> 1", layer + " -> 2", "mark(9) -> done"));
        }
        t.unchanged("what a mark below remembers stays", "mark(9) -> " + CAN_NOT, "feed(0x0D0A0A61, 4) -> 4",
            "push(1, 4) -> 0", "push(5, 0) -> 1", "mark(9) -> done", "line() -> 0", "push(2, 1) -> 2");
    }

    private static void canNot(Runs t, String top, String... before) {
        t.unchanged(top + ", mark of 0", "mark(0) -> " + CAN_NOT, before);
        t.unchanged(top + ", mark of 32", "mark(32) -> " + CAN_NOT, before);
        t.unchanged(top + ", reset", "reset() -> " + CAN_NOT, before);
    }

    private static void whenNew(Runs t) {
        t.says("Terms", "the others reset what is below and go back to what they remembered "
            + "(at first, how they were when they were new)");
        String[] marked = {"feed(0x0D0A0A0A, 4) -> 4", "push(1, 4) -> 0", "mark(9) -> done", "read() -> 13"};
        t.run("a LIMIT", Runs.rows(marked, "push(3, 2) -> 1", "some(9) -> 2", "about(1) -> 0", "reset() -> done",
            "about(1) -> 2", "some(9) -> 2", "bag 13 10"));
        t.run("a LIMIT of 0", Runs.rows(marked, "push(3, 0) -> 1", "reset() -> done", "about(0) -> 4", "about(1) -> 0",
            "read() -> -1"));
        t.run("a CODE", Runs.rows(marked, "push(4, 255) -> 1", "read() -> 245", "about(1) -> 1", "reset() -> done",
            "about(1) -> 0", "read() -> 242"));
        t.run("LINES", Runs.rows(marked, "push(5, 0) -> 1", "some(9) -> 3", "about(1) -> 3", "reset() -> done",
            "about(1) -> 0", "some(9) -> 4", "about(1) -> 3"));
        t.run("LINES that had a 13 last", "feed(0x0A0D, 2) -> 2", "push(1, 4) -> 0", "mark(9) -> done",
            "push(5, 0) -> 1", "some(9) -> 2", "reset() -> done", "read() -> 10", "about(1) -> 1");
        t.run("one that was there at the mark, one that was not", Runs.rows(EIGHT, "push(1, 8) -> 0", "push(3, 50) -> 1",
            "read() -> 1", "mark(9) -> done", "read() -> 2", "push(3, 60) -> 2", "read() -> 3", "reset() -> done",
            "about(1) -> 49", "about(2) -> 60", "read() -> 2"));
    }

    private static void leftOut(Runs t) {
        t.says("Promise 13", "what the next call would leave out is remembered, too");
        String[] buffered = {"feed(0x0D0A0A61, 4) -> 4", "push(1, 4) -> 0"};
        t.run("a 10 would be left out", Runs.rows(buffered, "line() -> 0", "mark(9) -> done", "read() -> 10",
            "reset() -> done", "read() -> 10", "read() -> 97"));
        t.run("none would be left out", Runs.rows(buffered, "skip(2) -> 2", "mark(9) -> done", "read() -> 10",
            "reset() -> done", "read() -> 10"));
        t.run("it has been left out before the mark", Runs.rows(buffered, "line() -> 0", "read() -> 10",
            "mark(9) -> done", "read() -> 97", "reset() -> done", "read() -> 97"));
        t.run("a line ended with 13 behind the mark", "feed(0x0A0D61, 3) -> 3", "push(1, 4) -> 0", "mark(9) -> done",
            "skip(1) -> 1", "line() -> 0", "reset() -> done", "read() -> 10");
        t.run("the latest mark's: none", Runs.rows(buffered, "line() -> 0", "mark(9) -> done", "read() -> 10",
            "mark(9) -> done", "reset() -> done", "read() -> 97"));
        t.run("the latest mark's: 10", Runs.rows(buffered, "mark(9) -> done", "line() -> 0", "mark(9) -> done",
            "read() -> 10", "reset() -> done", "read() -> 10"));
        t.run("a refused mark's: not", Runs.rows(buffered, "mark(9) -> done", "line() -> 0", "mark(33) -> " + WRONG,
            "reset() -> done", "read() -> 13"));
        t.run("again and again", Runs.rows(buffered, "line() -> 0", "mark(9) -> done", "some(9) -> 2", "bag 10 97",
            "reset() -> done", "some(9) -> 2", "reset() -> done", "some(9) -> 2", "bag 10 97"));
        for (String layer : PASSING) {
            t.run(layer + " over the BUFFER", "feed(0x0D0A0A0A, 4) -> 4", "push(1, 4) -> 0", "line() -> 0",
                layer + " -> 1", "mark(9) -> done", "skip(3) -> 2",
                "reset() -> done", "skip(3) -> 2", "about(0) -> 0");
        }
    }

    private static void reset(Runs t) {
        t.says("Promise 14", "Resets the top.");
        t.run("the top, not a marked BUFFER below it", Runs.rows(EIGHT, "push(1, 4) -> 0", "mark(9) -> done",
            "read() -> 1", "push(1, 2) -> 1", "mark(9) -> done", "read() -> 2", "reset() -> done", "about(1) -> 2",
            "about(0) -> 1", "read() -> 2"));
        t.says("Terms", "To RESET likewise: BUFFER goes back");
        t.run("to where it was marked, not to the first byte", Runs.rows(EIGHT, "push(1, 3) -> 0", "read() -> 1",
            "mark(9) -> done", "full(4) -> done", "bag 2 3 4 5", "reset() -> done", "full(4) -> done", "bag 2 3 4 5"));
        t.run("not to bytes that it still has from before", Runs.rows(EIGHT, "push(1, 4) -> 0", "read() -> 1",
            "mark(9) -> done", "read() -> 2", "reset() -> done", "about(0) -> 3", "some(9) -> 3", "bag 2 3 4"));
        t.says("Promise 14", "UnsupportedOperationException when the top can not be marked");
        t.run("no mark is there either", "reset() -> " + CAN_NOT, "push(2, 1) -> 0", "reset() -> " + CAN_NOT);
        t.says("Promise 14", "IllegalStateException also when the BUFFER that would go back has no mark");
        t.unchanged("never marked", "reset() -> " + STATE, Runs.rows(EIGHT, "push(1, 4) -> 0", "read() -> 1"));
        t.unchanged("the mark is gone", "reset() -> " + STATE, Runs.rows(EIGHT, "push(1, 4) -> 0", "mark(0) -> done",
            "read() -> 1"));
        t.unchanged("only a BUFFER below it has one", "reset() -> " + STATE, Runs.rows(EIGHT, "push(1, 2) -> 0",
            "mark(9) -> done", "push(1, 4) -> 1", "read() -> 1"));
        for (String layer : PASSING) {
            t.unchanged(layer + " over one without", "reset() -> " + STATE, Runs.rows(EIGHT, "push(1, 4) -> 0",
                layer + " -> 1", "some(2) -> 2"));
        }
        t.unchanged("a 10 would be left out", "reset() -> " + STATE, "feed(0x0D0A61, 3) -> 3", "push(1, 4) -> 0",
            "line() -> 0");
        t.run("the bag stays", Runs.rows(EIGHT, "push(1, 4) -> 0", "read() -> 1", "reset() -> " + STATE, "bag 1",
            "mark(9) -> done", "bag 1", "read() -> 2", "reset() -> done", "bag 2"));
    }
}
