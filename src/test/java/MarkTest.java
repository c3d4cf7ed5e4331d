/** Promises 13 and 14: mark and reset. */
public final class MarkTest {
    private static final String WRONG = "throws.IllegalArgumentException";
    private static final String NO_MARK = "throws.IllegalStateException";
    private static final String CAN_NOT = "throws.UnsupportedOperationException";

    public static void main(String[] args) {
        Runs t = new Runs();
        limits(t);
        tops(t);
        goingBack(t);
        othersRemember(t);
        leftOut(t);
        t.end();
    }

    private static void limits(Runs t) {
        t.run("13: wrong limits, before what can not be marked",
            "mark(-1) -> " + WRONG, "mark(33) -> " + WRONG, "mark(-2147483648) -> " + WRONG,
            "mark(2147483647) -> " + WRONG, "mark(0) -> " + CAN_NOT, "push(1, 4) -> 0", "mark(33) -> " + WRONG,
            "reset() -> " + NO_MARK, "mark(0) -> done", "mark(32) -> done");
        t.run("13: a wrong limit keeps the earlier mark",
            "feed(0x0102, 2) -> 2", "push(1, 2) -> 0", "mark(1) -> done", "read() -> 1", "mark(33) -> " + WRONG,
            "mark(-1) -> " + WRONG, "reset() -> done", "read() -> 1");
        t.run("13: limit 0 lasts until a byte is given",
            "feed(0x0102, 2) -> 2", "push(1, 4) -> 0", "mark(0) -> done", "reset() -> done", "read() -> 1",
            "reset() -> " + NO_MARK, "read() -> 2");
        t.run("13: just the limit, and one more",
            "feed(0x01020304, 4) -> 4", "push(1, 2) -> 0", "mark(3) -> done", "full(3) -> done", "reset() -> done",
            "full(3) -> done", "bag 1 2 3", "read() -> 4", "reset() -> " + NO_MARK);
        t.run("13: the greatest limit", Runs.fed(7, 60,
            "push(1, 5) -> 0", "mark(32) -> done", "full(32) -> done", "reset() -> done", "about(0) -> 35",
            "full(33) -> done", "reset() -> " + NO_MARK, "about(0) -> 2"));
        t.run("13: one answer may end the mark, and the rest is still given",
            "feed(0x01020304, 4) -> 4", "push(1, 4) -> 0", "mark(2) -> done", "some(3) -> 3",
            "reset() -> " + NO_MARK, "about(0) -> 1", "read() -> 4");
        t.run("13: a mark that is gone lets requests go below again",
            "feed(0x01020304, 4) -> 4", "feed(0x05060708, 4) -> 8", "push(1, 2) -> 0", "mark(1) -> done",
            "some(9) -> 2", "some(9) -> 6");
    }

    private static void tops(Runs t) {
        t.run("13 and 14: the source can not", "mark(1) -> " + CAN_NOT, "reset() -> " + CAN_NOT);
        for (String layer : new String[] {"push(3, 9)", "push(4, 9)", "push(5, 0)"}) {
            t.run("13 and 14: " + layer + " over the source can not",
                layer + " -> 0", "mark(1) -> " + CAN_NOT, "reset() -> " + CAN_NOT);
            t.run("13 and 14: " + layer + " over a PUSHBACK over a BUFFER can not",
                "push(1, 4) -> 0", "mark(9) -> done", "push(2, 4) -> 1", "mark(1) -> " + CAN_NOT,
                "reset() -> " + CAN_NOT, layer + " -> 2", "mark(1) -> " + CAN_NOT, "reset() -> " + CAN_NOT);
            t.run("13 and 14: " + layer + " over a BUFFER can",
                "feed(0x01020304, 4) -> 4", "push(1, 4) -> 0", layer + " -> 1", "reset() -> " + NO_MARK,
                "mark(9) -> done", "full(4) -> done", "reset() -> done", "about(0) -> 4");
        }
        t.run("14: a reset that throws changes nothing",
            "feed(0x01020304, 4) -> 4", "push(1, 4) -> 0", "push(3, 9) -> 1", "push(4, 0) -> 2", "full(2) -> done",
            "reset() -> " + NO_MARK, "about(0) -> 2", "about(1) -> 7", "about(2) -> 2", "bag 1 3");
        t.run("13 and 14: a BUFFER over a marked BUFFER has no mark of its own",
            "feed(0x01020304, 4) -> 4", "push(1, 2) -> 0", "mark(9) -> done", "push(1, 3) -> 1",
            "reset() -> " + NO_MARK, "read() -> 1", "mark(9) -> done", "read() -> 2", "reset() -> done", "read() -> 2",
            "reset() -> done", "about(1) -> 1", "about(0) -> 0");
    }

    private static void goingBack(Runs t) {
        t.run("14: again and again, before the others, with the bag as it was",
            "feed(0x01020304, 4) -> 4", "feed(0x0506, 2) -> 6", "push(1, 4) -> 0", "read() -> 1", "mark(5) -> done",
            "full(2) -> done", "reset() -> done", "bag 2 3", "about(0) -> 3", "available() -> 5", "full(5) -> done",
            "bag 2 3 4 5 6", "reset() -> done", "about(0) -> 5", "some(9) -> 5", "bag 2 3 4 5 6",
            "reset() -> done", "reset() -> done", "read() -> 2");
        t.run("14: none given since: the limit counts anew",
            "feed(0x01020304, 4) -> 4", "push(1, 4) -> 0", "mark(2) -> done", "full(2) -> done", "reset() -> done",
            "full(2) -> done", "reset() -> done", "full(2) -> done", "bag 1 2", "reset() -> done", "full(3) -> done",
            "reset() -> " + NO_MARK);
        t.run("13: a new mark forgets the earlier one and its limit",
            "feed(0x01020304, 4) -> 4", "push(1, 4) -> 0", "mark(9) -> done", "read() -> 1", "mark(1) -> done",
            "read() -> 2", "reset() -> done", "read() -> 2", "read() -> 3", "reset() -> " + NO_MARK);
        t.run("14: what came from below stays taken",
            "feed(0x0102, 2) -> 2", "push(1, 2) -> 0", "mark(9) -> done", "full(2) -> done", "read() -> -1",
            "reset() -> done", "about(-1) -> 2", "breakAt(2) -> true", "full(3) -> throws.IllegalStateException",
            "bag 1 2", "reset() -> done", "full(2) -> done");
        t.run("14: a buffer that keeps fills of several portions",
            "feed(1, 1) -> 1", "portion() -> done", "feed(0x0203, 2) -> 3", "portion() -> done",
            "feed(0x04050607, 4) -> 7", "push(1, 3) -> 0", "mark(6) -> done", "some(9) -> 1", "some(9) -> 2",
            "some(9) -> 3", "reset() -> done", "some(9) -> 6", "bag 1 2 3 4 5 6", "read() -> 7",
            "reset() -> " + NO_MARK);
    }

    private static void othersRemember(Runs t) {
        t.run("13 and 14: what is left, k, and the count",
            "feed(0x0A0A0A0A, 4) -> 4", "feed(0x0A0A0A0A, 4) -> 8", "push(1, 4) -> 0", "push(5, 0) -> 1",
            "push(4, 5) -> 2", "push(3, 9) -> 3", "full(2) -> done", "bag 15 12", "mark(5) -> done",
            "full(3) -> done", "bag 13 2 3", "reset() -> done", "about(0) -> 6", "about(1) -> 2", "about(2) -> 2",
            "about(3) -> 7", "full(3) -> done", "bag 13 2 3", "about(1) -> 5", "about(2) -> 5", "about(3) -> 4");
        t.run("14: at first, how they were when they were new",
            "feed(0x0A0A0A0A, 4) -> 4", "push(1, 4) -> 0", "mark(9) -> done", "read() -> 10", "push(5, 0) -> 1",
            "push(4, 5) -> 2", "push(3, 9) -> 3", "full(2) -> done", "reset() -> done", "about(0) -> 4",
            "about(1) -> 0", "about(2) -> 0", "about(3) -> 9", "full(4) -> done", "bag 15 12 13 2");
        t.run("13: a later mark is remembered instead",
            "feed(0x01020304, 4) -> 4", "push(1, 4) -> 0", "push(3, 9) -> 1", "mark(9) -> done", "read() -> 1",
            "mark(9) -> done", "read() -> 2", "reset() -> done", "about(1) -> 8", "read() -> 2");
        t.run("13 and 14: whether a 13 was last, remembered as true",
            "feed(0x0D0A0A, 3) -> 3", "push(1, 4) -> 0", "push(5, 0) -> 1", "read() -> 13", "mark(9) -> done",
            "full(2) -> done", "about(1) -> 2", "reset() -> done", "about(1) -> 1", "read() -> 10", "about(1) -> 1");
        t.run("13 and 14: whether a 13 was last, remembered as false",
            "feed(0x0A0D, 2) -> 2", "push(1, 4) -> 0", "push(5, 0) -> 1", "mark(9) -> done", "full(2) -> done",
            "about(1) -> 2", "reset() -> done", "read() -> 10", "about(1) -> 1");
        t.run("13: layers below the BUFFER go on as they are",
            "feed(0x01020304, 4) -> 4", "push(3, 9) -> 0", "push(4, 0) -> 1", "push(1, 2) -> 2", "mark(9) -> done",
            "full(3) -> done", "reset() -> done", "about(0) -> 5", "about(1) -> 4", "about(2) -> 4");
    }

    private static void leftOut(Runs t) {
        t.run("13 and 14: what would be left out is remembered",
            "feed(0x0D0A610A, 4) -> 4", "push(1, 4) -> 0", "line() -> 0", "mark(9) -> done", "read() -> 97",
            "reset() -> done", "read() -> 97", "read() -> 10");
        t.run("13 and 14: what would not be left out is remembered, too",
            "feed(0x0A0D61, 3) -> 3", "push(1, 4) -> 0", "mark(9) -> done", "some(1) -> 1", "line() -> 0",
            "reset() -> done", "read() -> 10");
        t.run("13 and 14: the latest mark's",
            "feed(0x0D0A0A, 3) -> 3", "push(1, 4) -> 0", "mark(9) -> done", "line() -> 0", "mark(9) -> done",
            "line() -> 0", "reset() -> done", "read() -> 10", "read() -> -1");
        t.run("14: a reset that throws leaves the waiting as it is",
            "feed(0x0D0A61, 3) -> 3", "push(1, 4) -> 0", "line() -> 0", "reset() -> " + NO_MARK, "read() -> 97");
        t.run("13 and 14: through a layer that was pushed since",
            "feed(0x0D0A61, 3) -> 3", "push(1, 4) -> 0", "line() -> 0", "mark(9) -> done", "read() -> 97",
            "push(5, 0) -> 1", "reset() -> done", "read() -> 97", "about(1) -> 1");
    }
}
