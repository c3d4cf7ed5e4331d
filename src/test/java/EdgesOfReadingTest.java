import java.util.ArrayList;
import java.util.List;

/** What the document's sentences say at their edges: read, some, full, skip, number, text, line, size and at. */
public final class EdgesOfReadingTest {
    private static final String WRONG = "throws.IllegalArgumentException";
    private static final String STATE = "throws.IllegalStateException";
    private static final String ENDED = "throws.NoSuchElementException";

    private static final String[] FARTHEST = {"2147483647", "-2147483648"};
    private static final int[] EDGES = {0x00, 0x7F, 0x80, 0xBF, 0xC0, 0xDF, 0xE0, 0xEF, 0xF0, 0xFF};

    public static void main(String[] args) {
        Runs t = new Runs();
        read(t);
        some(t);
        full(t);
        fullStopped(t);
        skip(t);
        skipStopped(t);
        number(t);
        numberStopped(t);
        textNumber(t);
        textStopped(t);
        letters(t);
        lettersStay(t);
        line(t);
        lineStopped(t);
        sizeAndAt(t);
        t.end();
    }

    /** A number outside empties the bag and reads nothing. */
    private static void refused(Runs t, String call, String... numbers) {
        for (String n : Runs.rows(numbers, FARTHEST)) {
            String row = call + "(" + n + ") -> " + WRONG;
            String[] before = {"feed(0x0D0A0102, 4) -> 4", "push(1, 2) -> 0", "mark(9) -> done", "line() -> 0"};
            t.unchanged("n is " + n, row, before);
            t.run("n is " + n, "feed(0x0102, 2) -> 2", "read() -> 1", "bag 1", row, "bag", "about(-1) -> 1");
        }
    }

    private static void read(Runs t) {
        t.says("Promise 6", "Reads one byte and answers it; NONE at the end.");
        t.run("the least byte and the greatest", "feed(0x00FF, 2) -> 2", "read() -> 0", "bag 0", "read() -> 255",
            "bag 255", "about(-1) -> 2");
        t.run("the end", "feed(1, 1) -> 1", "read() -> 1", "read() -> -1", "bag", "read() -> -1", "about(-1) -> 1");
        t.run("one of many", "feed(0x01020304, 4) -> 4", "read() -> 1", "bag 1", "about(-1) -> 1");
        t.says("Promise 6", "IllegalStateException when a request fails.");
        t.run("before and at the place", "feed(0x0102, 2) -> 2", "breakAt(1) -> true", "read() -> 1",
            "read() -> " + STATE, "bag", "about(-1) -> 1");
    }

    private static void some(Runs t) {
        t.says("Promise 7", "Reads n bytes; answers how many came; NONE at the end.");
        t.run("59 there", Runs.fed(7, 59, "some(60) -> 59", "size(false) -> 59", "some(60) -> -1", "bag"));
        t.run("60 there", Runs.fed(7, 60, "some(60) -> 60", "size(false) -> 60", "some(1) -> -1", "bag"));
        t.run("61 there", Runs.fed(7, 61, "some(60) -> 60", "size(false) -> 60", "some(60) -> 1", "bag 7"));
        t.run("one request alone", "feed(1, 1) -> 1", "portion() -> done", "feed(2, 1) -> 2", "some(2) -> 1", "bag 1");
        t.says("Promise 7", "IllegalArgumentException when n is not 1 .. 60");
        t.run("1", "feed(0x0102, 2) -> 2", "some(1) -> 1", "bag 1");
        t.run("60", Runs.fed(7, 120, "some(60) -> 60"));
        refused(t, "some", "0", "61", "-1", "-60");
        t.says("Promise 7", "IllegalStateException when a request fails.");
        t.run("before and at the place", "feed(0x0102, 2) -> 2", "breakAt(2) -> true", "some(2) -> 2",
            "some(1) -> " + STATE, "bag", "about(-1) -> 2");
        t.run("there is one request, and it does not fail", "feed(0x0102, 2) -> 2", "breakAt(2) -> true",
            "some(9) -> 2", "bag 1 2");
    }

    private static void full(Runs t) {
        t.says("Promise 8", "Reads n bytes, again and again so many as are missing, until all have come.");
        t.run("0", "feed(1, 1) -> 1", "full(0) -> done", "bag", "about(-1) -> 0");
        t.run("just the portion", "feed(0x0102, 2) -> 2", "portion() -> done", "feed(3, 1) -> 3", "full(2) -> done",
            "bag 1 2", "about(-1) -> 2");
        t.run("one more than the portion", "feed(0x0102, 2) -> 2", "portion() -> done", "feed(0x0304, 2) -> 4",
            "full(3) -> done", "bag 1 2 3", "about(-1) -> 3");
        t.run("portions of one byte", "feed(1, 1) -> 1", "portion() -> done", "feed(2, 1) -> 2", "portion() -> done",
            "feed(3, 1) -> 3", "portion() -> done", "feed(4, 1) -> 4", "full(3) -> done", "bag 1 2 3");
        t.run("so many as are missing: one less than a BUFFER's size", "feed(0x0102, 2) -> 2", "portion() -> done",
            "feed(0x03040506, 4) -> 6", "push(1, 3) -> 0", "full(4) -> done", "about(0) -> 1", "about(-1) -> 5");
        t.run("so many as are missing: one more than a BUFFER's size", "feed(0x0102, 2) -> 2", "portion() -> done",
            "feed(0x03040506, 4) -> 6", "push(1, 2) -> 0", "full(5) -> done", "about(0) -> 0", "about(-1) -> 5");
        t.says("Promise 8", "IllegalArgumentException when n is not 0 .. 60");
        t.run("0 with nothing there", "full(0) -> done");
        t.run("60", Runs.fed(7, 61, "full(60) -> done", "size(false) -> 60", "about(-1) -> 60"));
        refused(t, "full", "-1", "61", "-60");
    }

    private static void fullStopped(Runs t) {
        t.says("Promise 8", "IllegalStateException when a request fails; NoSuchElementException at the end. "
            + "In these two cases what came before is in the bag.");
        String[] two = {"feed(0x0102, 2) -> 2"};
        t.run("the end behind the last", Runs.rows(two, "full(2) -> done", "bag 1 2"));
        t.run("the end before the last", Runs.rows(two, "full(3) -> " + ENDED, "bag 1 2", "about(-1) -> 2"));
        t.run("the end at once", "full(1) -> " + ENDED, "bag");
        t.run("the end before the last of 60", Runs.fed(7, 59, "full(60) -> " + ENDED, "size(false) -> 59"));
        t.run("broken behind the last", Runs.rows(two, "breakAt(2) -> true", "full(2) -> done", "bag 1 2"));
        t.run("broken before the last", Runs.rows(two, "breakAt(2) -> true", "full(3) -> " + STATE, "bag 1 2",
            "about(-1) -> 2"));
        t.run("broken at once", Runs.rows(two, "breakAt(0) -> true", "full(1) -> " + STATE, "bag", "about(-1) -> 0"));
        t.run("no request of no bytes", Runs.rows(two, "breakAt(0) -> true", "full(0) -> done", "bag"));
        t.run("a LIMIT's end", Runs.rows(two, "push(3, 1) -> 0", "full(1) -> done", "full(1) -> " + ENDED, "bag"));
    }

    private static void skip(Runs t) {
        t.says("Promise 9", "As full");
        t.run("0", "feed(1, 1) -> 1", "skip(0) -> 0", "about(-1) -> 0");
        t.run("one more than the portion", "feed(0x0102, 2) -> 2", "portion() -> done", "feed(0x0304, 2) -> 4",
            "skip(3) -> 3", "about(-1) -> 3");
        t.run("so many as are missing", "feed(0x0102, 2) -> 2", "portion() -> done", "feed(0x03040506, 4) -> 6",
            "push(1, 2) -> 0", "skip(5) -> 5", "about(0) -> 0", "about(-1) -> 5");
        t.says("Promise 9", "these do not come into the bag");
        t.run("all came", "feed(0x0102, 2) -> 2", "read() -> 1", "skip(1) -> 1", "bag");
        t.run("the end came", "feed(0x0102, 2) -> 2", "read() -> 1", "skip(2) -> 1", "bag");
        t.run("a failure came", "feed(0x0102, 2) -> 2", "breakAt(2) -> true", "read() -> 1", "skip(2) -> 1", "bag",
            "skip(2) -> " + STATE, "bag");
        t.says("Promise 9", "IllegalArgumentException when n is not 0 .. 120");
        t.run("0 with nothing there", "skip(0) -> 0");
        t.run("120", Runs.fed(7, 120, "skip(120) -> 120", "about(-1) -> 120"));
        t.run("120 through a BUFFER", Runs.fed(7, 120, "push(1, 16) -> 0", "read() -> 7", "skip(120) -> 119"));
        t.run("120 of more", Runs.fed(7, 120, "push(2, 1) -> 0", "unread(9) -> done", "skip(120) -> 120",
            "about(-1) -> 119", "read() -> 7"));
        refused(t, "skip", "-1", "121", "-120");
    }

    private static void skipStopped(Runs t) {
        t.says("Promise 9", "but it answers how many bytes came when there is the end, "
            + "or when a request fails and some came before");
        t.run("the end behind the last", "feed(0x0102, 2) -> 2", "skip(2) -> 2");
        t.run("the end before the last", "feed(0x0102, 2) -> 2", "skip(3) -> 2", "about(-1) -> 2");
        t.run("the end at once", "skip(1) -> 0", "skip(120) -> 0");
        t.run("the end before the last of 120", Runs.fed(7, 119, "skip(120) -> 119"));
        t.run("a failure behind the last", "feed(0x0102, 2) -> 2", "breakAt(2) -> true", "skip(2) -> 2");
        t.run("a failure before the last", "feed(0x0102, 2) -> 2", "breakAt(2) -> true", "skip(3) -> 2");
        t.run("a failure behind one byte", "feed(1, 1) -> 1", "breakAt(1) -> true", "skip(120) -> 1");
        t.says("Promise 9", "IllegalStateException when a request fails before any came.");
        t.unchanged("at once", "skip(1) -> " + STATE, "feed(0x0102, 2) -> 2", "breakAt(0) -> true");
        t.run("of 120", Runs.fed(7, 120, "breakAt(0) -> true", "skip(120) -> " + STATE, "about(-1) -> 0"));
        t.run("no request of no bytes", "breakAt(0) -> true", "skip(0) -> 0");
        t.run("one that is left out did not come", "feed(0x0D0A, 2) -> 2", "line() -> 0", "breakAt(2) -> true",
            "skip(1) -> " + STATE, "about(-1) -> 2");
    }

    private static void number(Runs t) {
        t.says("Promise 10", "Reads n bytes as full does and answers the number that they are, "
            + "the first byte being the highest; one of 8 bytes may be negative");
        for (int n = 1; n <= 8; n++) {
            String bytes = " 255".repeat(n);
            t.run("the least of " + n, "feed(0, 4) -> 4", "feed(0, 4) -> 8", "number(" + n + ") -> 0",
                "bag" + " 0".repeat(n));
            t.run("the greatest bytes of " + n, "feed(-1, 4) -> 4", "feed(-1, 4) -> 8",
                "number(" + n + ") -> " + (n == 8 ? -1 : (1L << (8 * n)) - 1), "bag" + bytes);
            t.run("the first is the highest of " + n, Runs.rows("feed(1, 1) -> 1", Runs.fedBehind(1, 0, 7),
                "number(" + n + ") -> " + (1L << (8 * (n - 1)))));
            t.run("the last is the lowest of " + n, Runs.rows(Runs.fed(0, n - 1), "feed(1, 1) -> " + n,
                "number(" + n + ") -> 1"));
        }
        t.run("over portions", "feed(1, 1) -> 1", "portion() -> done", "feed(0x0203, 2) -> 3", "number(3) -> 66051",
            "bag 1 2 3");
        t.run("so many as are missing", "feed(0x0102, 2) -> 2", "portion() -> done", "feed(0x03040506, 4) -> 6",
            "push(1, 2) -> 0", "number(5) -> 4328719365", "about(0) -> 0", "about(-1) -> 5");
        t.run("the greatest of 8", "feed(0x7FFFFFFF, 4) -> 4", "feed(-1, 4) -> 8", "number(8) -> 9223372036854775807");
        t.run("the least of 8", "feed(0x80000000, 4) -> 4", "feed(0, 4) -> 8", "number(8) -> -9223372036854775808");
        t.run("the highest bit of 7", "feed(0x80000000, 4) -> 4", "feed(0, 3) -> 7", "number(7) -> 36028797018963968");
        t.run("the highest bit of 4", "feed(0x80000000, 4) -> 4", "number(4) -> 2147483648");
        t.run("the highest bit of 1", "feed(0x80, 1) -> 1", "number(1) -> 128");
    }

    private static void numberStopped(Runs t) {
        t.says("Promise 10", "IllegalArgumentException when n is not 1 .. 8; otherwise it throws as full does.");
        t.run("1", "feed(5, 1) -> 1", "number(1) -> 5", "about(-1) -> 1");
        t.run("8", "feed(0, 4) -> 4", "feed(0, 4) -> 8", "feed(1, 1) -> 9", "number(8) -> 0", "about(-1) -> 8");
        refused(t, "number", "0", "9", "-1", "-8");
        for (int n = 1; n <= 8; n++) {
            String bag = "bag" + " 7".repeat(n - 1);
            t.run("the end before the last of " + n, Runs.fed(7, n - 1, "number(" + n + ") -> " + ENDED, bag));
            t.run("broken before the last of " + n, Runs.fed(7, n - 1, "breakAt(" + (n - 1) + ") -> true",
                "number(" + n + ") -> " + STATE, bag));
        }
        t.run("broken behind the last", Runs.fed(0, 8, "breakAt(8) -> true", "number(8) -> 0"));
    }

    private static void textNumber(Runs t) {
        t.says("Promise 11", "Reads a number of 2 bytes, then so many bytes as it says, as full does "
            + "(one behind the other in the bag)");
        t.run("0", "feed(0x000041, 3) -> 3", "text() -> 0", "bag 0 0", "letters", "about(-1) -> 2");
        t.run("1", "feed(0x00014142, 4) -> 4", "text() -> 1", "bag 0 1 65", "letters 65", "about(-1) -> 3");
        t.run("over portions", "feed(0, 1) -> 1", "portion() -> done", "feed(3, 1) -> 2", "portion() -> done",
            "feed(0x41, 1) -> 3", "portion() -> done", "feed(0x424344, 3) -> 6", "text() -> 3", "bag 0 3 65 66 67");
        t.says("Promise 11", "IllegalArgumentException when the number is more than 118, before the bytes are read");
        t.run("118", Runs.rows("feed(118, 2) -> 2", Runs.fedBehind(2, 65, 118), "text() -> 118", "size(false) -> 120",
            "size(true) -> 118", "at(0, true) -> 65", "at(117, true) -> 65", "at(118, true) -> -1"));
        t.run("118, but 117 are there", Runs.rows("feed(118, 2) -> 2", Runs.fedBehind(2, 65, 117), "text() -> " + ENDED,
            "size(false) -> 119", "letters"));
        for (int number : new int[] {119, 120, 255, 256, 256 + 118, 0x7600, 0x7FFF, 0x8000, 0xFFFF}) {
            t.run("" + number, Runs.rows("feed(" + number + ", 2) -> 2", Runs.fedBehind(2, 65, 118),
                "text() -> " + WRONG, "bag " + number / 256 + " " + number % 256, "about(-1) -> 2", "letters",
                "read() -> 65"));
        }
        t.run("119 at the end", "feed(119, 2) -> 2", "text() -> " + WRONG, "bag 0 119");
        t.run("119 before a broken place", "feed(119, 2) -> 2", "breakAt(2) -> true", "text() -> " + WRONG);
    }

    private static void textStopped(Runs t) {
        t.says("Promise 11", "IllegalStateException and NoSuchElementException as for full");
        String[] bytes = {"feed(0, 1) -> 1", "feed(2, 1) -> 2", "feed(65, 1) -> 3", "feed(66, 1) -> 4"};
        String[] bags = {"bag", "bag 0", "bag 0 2", "bag 0 2 65"};
        for (int n = 0; n < 4; n++) {
            String[] there = java.util.Arrays.copyOf(bytes, n);
            t.run("the end behind " + n, Runs.rows(there, "text() -> " + ENDED, bags[n], "letters"));
            t.run("broken behind " + n, Runs.rows(there, "breakAt(" + n + ") -> true", "text() -> " + STATE, bags[n],
                "letters"));
        }
        t.run("broken behind all", Runs.rows(bytes, "breakAt(4) -> true", "text() -> 2"));
        t.run("no request for no bytes", "feed(0, 2) -> 2", "breakAt(2) -> true", "text() -> 0");
    }

    private static void letters(Runs t) {
        t.says("Promise 11", "and answers how many LETTERS they are: a byte 0 .. 127 is a letter");
        t.run("three letters of six bytes", "feed(0x000641C3, 4) -> 4", "feed(0xA4E282AC, 4) -> 8", "text() -> 3",
            "letters 65 228 8364");
        for (int b = 0; b < 256; b++) {
            text(t, b);
        }
        t.says("Promise 11", "a byte of the bits 110x xxxx and one of 10xx xxxx are the letter of the eleven bits x");
        for (int b = 0; b < 256; b++) {
            for (int edge : EDGES) {
                text(t, b, edge);
                text(t, edge, b);
            }
        }
        t.says("Promise 11", "one of 1110 xxxx and two of 10xx xxxx that of the sixteen bits x");
        for (int b = 0; b < 256; b++) {
            for (int edge : EDGES) {
                text(t, b, edge, 0x80);
                text(t, b, 0xBF, edge);
                text(t, 0xE1, b, edge);
                text(t, 0xEF, edge, b);
            }
        }
        t.says("Promise 11", "or they are not just letters");
        text(t, 0x41, 0xE1, 0x80, 0xBF);
        text(t, 0xE1, 0x80, 0xBF, 0x80);
        text(t, 0xC1, 0x80, 0xC1, 0x81);
        text(t, 0xC1, 0x80, 0xE1, 0x81);
        t.run("a letter of which one byte is behind the text", "feed(0x0001C380, 4) -> 4", "text() -> " + WRONG,
            "bag 0 1 195", "letters", "read() -> 128");
        t.run("a letter of which one byte is behind 118", Runs.rows("feed(118, 2) -> 2", Runs.fedBehind(2, 65, 117),
            "feed(0xC3, 1) -> 120", "text() -> " + WRONG, "size(false) -> 120", "letters"));
    }

    /** A text of these bytes has the letters that the document tells, or it throws. */
    private static void text(Runs t, int... bytes) {
        List<Integer> due = lettersOf(bytes);
        StringBuilder bag = new StringBuilder("bag 0 " + bytes.length);
        StringBuilder letters = new StringBuilder("letters");
        List<String> run = new ArrayList<>();
        run.add("feed(" + bytes.length + ", 2) -> 2");
        for (int b : bytes) {
            bag.append(" ").append(b);
            run.add("feed(" + b + ", 1) -> " + (run.size() + 2));
        }
        if (due != null) {
            due.forEach(letter -> letters.append(" ").append(letter));
        }
        run.add("text() -> " + (due == null ? WRONG : due.size()));
        run.add(bag.toString());
        run.add(letters.toString());
        t.run("the letters of " + bag, run.toArray(new String[0]));
    }

    private static List<Integer> lettersOf(int[] bytes) {
        List<Integer> found = new ArrayList<>();
        int place = 0;
        while (place < bytes.length) {
            int first = bytes[place];
            int more = first <= 127 ? 0 : first >= 192 && first <= 223 ? 1 : first >= 224 && first <= 239 ? 2 : -1;
            if (more < 0 || place + more >= bytes.length) {
                return null;
            }
            int letter = first - (more == 0 ? 0 : more == 1 ? 192 : 224);
            for (int k = 1; k <= more; k++) {
                int next = bytes[place + k];
                if (next < 128 || next > 191) {
                    return null;
                }
                letter = letter * 64 + next - 128;
            }
            found.add(letter);
            place += more + 1;
        }
        return found;
    }

    private static void lettersStay(Runs t) {
        t.says("Promise 11", "The letters stay until the next text that throws nothing.");
        String[] first = {"feed(0x00024142, 4) -> 4", "text() -> 2", "letters 65 66"};
        t.run("a text of none", Runs.rows(first, "feed(0, 2) -> 6", "text() -> 0", "letters"));
        t.run("a text of one", Runs.rows(first, "feed(0x000143, 3) -> 7", "text() -> 1", "letters 67"));
        t.run("a text at the end", Runs.rows(first, "text() -> " + ENDED, "letters 65 66"));
        t.run("a text that ends early", Runs.rows(first, "feed(0x000243, 3) -> 7", "text() -> " + ENDED,
            "letters 65 66"));
        t.run("a text that fails", Runs.rows(first, "feed(0x000243, 3) -> 7", "breakAt(7) -> true", "text() -> " + STATE,
            "letters 65 66"));
        t.run("a text of more than 118", Runs.rows(first, "feed(119, 2) -> 6", "text() -> " + WRONG, "letters 65 66"));
        t.run("a text that is not letters behind a letter", Runs.rows(first, "feed(0x000243FF, 4) -> 8",
            "text() -> " + WRONG, "letters 65 66"));
        t.run("a closed text", Runs.rows(first, "close() -> done", "text() -> " + STATE, "letters 65 66"));
        t.run("other calls", Runs.rows(first, "feed(0x430D4445, 4) -> 8", "read() -> 67", "line() -> 0", "some(1) -> 1",
            "full(1) -> done", "skip(1) -> 0", "number(1) -> " + ENDED, "push(1, 4) -> 0", "mark(1) -> done",
            "reset() -> done", "push(2, 4) -> 1", "unread(1) -> done", "close() -> done", "letters 65 66"));
    }

    private static void line(Runs t) {
        t.says("Promise 12", "Reads bytes, one by one, up to 10 or 13, which ends the line and does not come "
            + "into the bag, or up to the end");
        for (int b = 0; b < 256; b++) {
            boolean ends = b == 10 || b == 13;
            t.run("a line with " + b, "feed(" + b + ", 1) -> 1", "feed(65, 1) -> 2", "line() -> " + (ends ? 0 : 2),
                ends ? "bag" : "bag " + b + " 65");
        }
        t.run("a 10 behind bytes", "feed(0x41420A43, 4) -> 4", "line() -> 2", "bag 65 66", "about(-1) -> 3");
        t.run("a 13 behind bytes", "feed(0x41420D43, 4) -> 4", "line() -> 2", "bag 65 66", "about(-1) -> 3");
        t.run("one by one: a BUFFER is asked for one", "feed(0x41420A43, 4) -> 4", "push(1, 2) -> 0", "line() -> 2",
            "about(0) -> 1", "about(-1) -> 4");
        t.run("one by one: a broken place is met", "feed(0x4142, 2) -> 2", "breakAt(1) -> true", "line() -> " + STATE,
            "bag 65");
        t.says("Promise 12", "answers how many are in the bag; NONE when the end comes at once");
        t.run("none in the bag, but a line end", "feed(10, 1) -> 1", "line() -> 0", "bag", "line() -> -1", "bag");
        t.run("one in the bag, then the end", "feed(65, 1) -> 1", "line() -> 1", "bag 65", "line() -> -1", "bag");
        t.run("one in the bag, then a line end, then the end", "feed(0x410D, 2) -> 2", "line() -> 1", "line() -> -1");
        t.run("119 and a line end", Runs.rows(Runs.fed(65, 119), "feed(10, 1) -> 120", "line() -> 119", "line() -> -1"));
        t.run("120 and the end", Runs.fed(65, 120, "line() -> 120", "line() -> -1"));
        t.run("more than 120", Runs.rows(Runs.fed(65, 120), "push(2, 8) -> 0", Runs.times(8, "unread(66) -> done"),
            "push(2, 8) -> 1", Runs.times(8, "unread(67) -> done"), "line() -> 136", "at(0, false) -> 67",
            "at(135, false) -> 65", "at(136, false) -> -1", "line() -> -1"));
    }

    private static void lineStopped(Runs t) {
        t.says("Promise 12", "IllegalStateException when a request fails; what came before is in the bag.");
        t.run("at once", "feed(65, 1) -> 1", "breakAt(0) -> true", "line() -> " + STATE, "bag", "about(-1) -> 0");
        t.run("behind one", "feed(65, 1) -> 1", "breakAt(1) -> true", "line() -> " + STATE, "bag 65", "about(-1) -> 1");
        t.run("behind a line end it is not met", "feed(0x410A, 2) -> 2", "breakAt(2) -> true", "line() -> 1", "bag 65",
            "line() -> " + STATE, "bag");
        t.run("at the line end", "feed(0x410A, 2) -> 2", "breakAt(1) -> true", "line() -> " + STATE, "bag 65",
            "breakAt(-1) -> true", "line() -> 0");
        t.run("behind 120", Runs.fed(65, 120, "breakAt(120) -> true", "line() -> " + STATE, "size(false) -> 120"));
        String[] putBack = Runs.times(8, "unread(66) -> done");
        t.run("behind all that a tower can hold", Runs.rows(Runs.fed(65, 120), "push(2, 8) -> 0", putBack,
            "push(2, 8) -> 1", putBack, "push(2, 8) -> 2", putBack, "push(2, 8) -> 3", putBack, "push(2, 8) -> 4",
            putBack, "breakAt(120) -> true", "line() -> " + STATE, "size(false) -> 160", "at(159, false) -> 65"));
    }

    private static void sizeAndAt(Runs t) {
        t.says("Promise 19", "How many bytes are in the bag, or (when letters) how many letters the latest text had.");
        t.run("none", "size(false) -> 0", "size(true) -> 0");
        t.run("two letters of five bytes", "feed(0x0005C3A4, 4) -> 4", "feed(0xE282AC, 3) -> 7", "text() -> 2",
            "size(false) -> 7", "size(true) -> 2", "read() -> -1", "size(false) -> 0", "size(true) -> 2");
        t.run("a bag of one behind a bag of more", "feed(0x01020304, 4) -> 4", "full(3) -> done", "size(false) -> 3",
            "read() -> 4", "size(false) -> 1");
        t.says("Promise 20", "Byte k of the bag, or letter k; NONE when there is none.");
        String[] text = {"feed(0x0005C3A4, 4) -> 4", "feed(0xE282AC, 3) -> 7", "text() -> 2"};
        for (String k : Runs.rows("-1", "7", "8", "-7", FARTHEST)) {
            t.run("no byte " + k, Runs.rows(text, "at(" + k + ", false) -> -1"));
        }
        for (String k : Runs.rows("-1", "2", "3", "6", FARTHEST)) {
            t.run("no letter " + k, Runs.rows(text, "at(" + k + ", true) -> -1"));
        }
        t.run("the first and the last", Runs.rows(text, "at(0, false) -> 0", "at(6, false) -> 172", "at(0, true) -> 228",
            "at(1, true) -> 8364"));
        t.run("nothing of a longer bag or text is left", Runs.rows(text, "feed(0x000141, 3) -> 10", "text() -> 1",
            "at(2, false) -> 65", "at(3, false) -> -1", "at(0, true) -> 65", "at(1, true) -> -1"));
        t.run("an empty bag and no letters", "at(0, false) -> -1", "at(0, true) -> -1", "at(-1, false) -> -1",
            "at(-1, true) -> -1");
        t.run("the last of 60 and of 61", Runs.fed(7, 120, "full(60) -> done", "at(59, false) -> 7", "at(60, false) -> -1",
            "push(2, 1) -> 0", "unread(7) -> done", "line() -> 61", "at(60, false) -> 7", "at(61, false) -> -1"));
    }
}
