import java.util.NoSuchElementException;

/** A source of bytes, up to five layers of streams over it, and calls that read at its top. */
public final class StreamTower {
    public static final int NONE = -1;

    private static final int BUFFER = 1;
    private static final int PUSHBACK = 2;
    private static final int LIMIT = 3;
    private static final int CODE = 4;
    private static final int LINES = 5;

    private static final int MOST_SOURCE_BYTES = 120;
    private static final int MOST_LAYERS = 5;
    private static final int MOST_BUFFER_SIZE = 16;
    private static final int MOST_PUSHBACK_SIZE = 8;
    private static final int MOST_LIMIT_NUMBER = 200;
    private static final int MOST_MARK_LIMIT = 32;
    private static final int MOST_FED_AT_ONCE = 4;
    private static final int MOST_READ_AT_ONCE = 60;
    private static final int MOST_SKIPPED_AT_ONCE = 120;
    private static final int MOST_NUMBER_BYTES = 8;
    private static final int TEXT_LENGTH_BYTES = 2;
    private static final int MOST_TEXT_BYTES = 118;
    private static final int HIGHEST_BYTE = 255;

    // A line may hold all that the source has and all that was put back into five layers.
    private static final int MOST_LINE_BYTES = MOST_SOURCE_BYTES + MOST_LAYERS * MOST_PUSHBACK_SIZE;

    private static final int LINE_FEED = 10;
    private static final int CARRIAGE_RETURN = 13;

    // What a request answers when it is not a number of bytes.
    private static final int END = 0;
    private static final int FAILED = -1;

    private final Source source;
    private final Stream[] layers;
    private final int[] answered;
    private final Row bag;
    private final Row letters;
    private Stream top;
    private int layerCount;
    private boolean closed;
    private boolean leavesOutLineFeed;
    private boolean leftOutLineFeedAtMark;

    public StreamTower() {
        source = new Source();
        layers = new Stream[MOST_LAYERS];
        answered = new int[MOST_SKIPPED_AT_ONCE];
        bag = new Row(MOST_LINE_BYTES);
        letters = new Row(MOST_TEXT_BYTES);
        top = source;
    }

    public int feed(int w, int n) throws IllegalArgumentException, IllegalStateException {
        if (n < 1 || n > MOST_FED_AT_ONCE) {
            throw new IllegalArgumentException();
        }
        if (!source.hasRoomFor(n)) {
            throw new IllegalStateException();
        }
        for (int k = n - 1; k >= 0; k--) {
            source.append((w >>> (8 * k)) & HIGHEST_BYTE);
        }
        return source.count;
    }

    public void portion() {
        source.startPortion();
    }

    public boolean breakAt(int place) {
        if (place == NONE) {
            source.mend();
            return true;
        }
        return source.breakPlace(place);
    }

    public int push(int kind, int size) throws IllegalArgumentException, IllegalStateException {
        if (!isSizeOfKind(kind, size)) {
            throw new IllegalArgumentException();
        }
        if (closed || layerCount >= MOST_LAYERS) {
            throw new IllegalStateException();
        }
        top = layerOver(top, kind, size);
        layers[layerCount] = top;
        layerCount++;
        return layerCount - 1;
    }

    public int read() throws IllegalStateException {
        startReading();
        int count = request(1);
        if (count == FAILED) {
            throw new IllegalStateException();
        }
        bag.addAll(answered, count);
        return bag.get(0);
    }

    public int some(int n) throws IllegalArgumentException, IllegalStateException {
        startReading();
        if (n < 1 || n > MOST_READ_AT_ONCE) {
            throw new IllegalArgumentException();
        }
        int count = request(n);
        if (count == FAILED) {
            throw new IllegalStateException();
        }
        bag.addAll(answered, count);
        return count == END ? NONE : count;
    }

    public void full(int n) throws IllegalArgumentException, IllegalStateException, NoSuchElementException {
        startReading();
        if (n < 0 || n > MOST_READ_AT_ONCE) {
            throw new IllegalArgumentException();
        }
        readAll(n);
    }

    public int skip(int n) throws IllegalArgumentException, IllegalStateException {
        startReading();
        if (n < 0 || n > MOST_SKIPPED_AT_ONCE) {
            throw new IllegalArgumentException();
        }
        int came = 0;
        // Each turn brings a byte at least, so n turns are enough.
        for (int turn = 0; turn < n && came < n; turn++) {
            int count = request(n - came);
            if (count == FAILED && came == 0) {
                throw new IllegalStateException();
            }
            if (count == FAILED || count == END) {
                return came;
            }
            came += count;
        }
        return came;
    }

    public long number(int n) throws IllegalArgumentException, IllegalStateException, NoSuchElementException {
        startReading();
        if (n < 1 || n > MOST_NUMBER_BYTES) {
            throw new IllegalArgumentException();
        }
        readAll(n);
        return numberInBag(n);
    }

    public int text() throws IllegalStateException, NoSuchElementException, IllegalArgumentException {
        startReading();
        readAll(TEXT_LENGTH_BYTES);
        int length = (int) numberInBag(TEXT_LENGTH_BYTES);
        if (length > MOST_TEXT_BYTES) {
            throw new IllegalArgumentException();
        }
        readAll(length);
        // Looked at before the letters are taken over: a text that throws leaves the earlier letters.
        if (!holdsJustLetters(bag, TEXT_LENGTH_BYTES)) {
            throw new IllegalArgumentException();
        }
        takeLetters();
        return letters.count;
    }

    public int line() throws IllegalStateException {
        startReading();
        for (int turn = 0; turn <= MOST_LINE_BYTES; turn++) {
            int count = request(1);
            if (count == FAILED) {
                throw new IllegalStateException();
            }
            if (count == END) {
                return bag.count == 0 ? NONE : bag.count;
            }
            int b = answered[0];
            if (b == LINE_FEED || b == CARRIAGE_RETURN) {
                leavesOutLineFeed = b == CARRIAGE_RETURN;
                return bag.count;
            }
            bag.add(b);
        }
        return bag.count;
    }

    public void mark(int limit) throws IllegalStateException, IllegalArgumentException, UnsupportedOperationException {
        refuseWhenClosed();
        if (limit < 0 || limit > MOST_MARK_LIMIT) {
            throw new IllegalArgumentException();
        }
        if (!top.canBeMarked()) {
            throw new UnsupportedOperationException();
        }
        top.takeMark(limit);
        leftOutLineFeedAtMark = leavesOutLineFeed;
    }

    public void reset() throws IllegalStateException, UnsupportedOperationException {
        refuseWhenClosed();
        if (!top.canBeMarked()) {
            throw new UnsupportedOperationException();
        }
        if (!top.hasMark()) {
            throw new IllegalStateException();
        }
        top.goBack();
        leavesOutLineFeed = leftOutLineFeedAtMark;
    }

    public void unread(int b) throws IllegalStateException, IllegalArgumentException, UnsupportedOperationException {
        refuseWhenClosed();
        if (b < 0 || b > HIGHEST_BYTE) {
            throw new IllegalArgumentException();
        }
        if (!(top instanceof Pushback)) {
            throw new UnsupportedOperationException();
        }
        Pushback pushback = (Pushback) top;
        if (!pushback.putBack(b)) {
            throw new IllegalStateException();
        }
    }

    public int available() {
        return top.ready();
    }

    public void close() {
        closed = true;
    }

    public int about(int layer) {
        if (layer == NONE) {
            return source.state();
        }
        if (layer < 0 || layer >= layers.length) {
            return NONE;
        }
        Stream asked = layers[layer];
        return asked == null ? NONE : asked.state();
    }

    public int size(boolean letters) {
        return rowOf(letters).count;
    }

    public int at(int k, boolean letters) {
        return rowOf(letters).get(k);
    }

    private Row rowOf(boolean ofLetters) {
        return ofLetters ? letters : bag;
    }

    private static boolean isSizeOfKind(int kind, int size) {
        switch (kind) {
            case BUFFER:
                return size >= 1 && size <= MOST_BUFFER_SIZE;
            case PUSHBACK:
                return size >= 1 && size <= MOST_PUSHBACK_SIZE;
            case LIMIT:
                return size >= 0 && size <= MOST_LIMIT_NUMBER;
            case CODE:
                return size >= 0 && size <= HIGHEST_BYTE;
            case LINES:
                return size == 0;
            default:
                return false;
        }
    }

    private static Stream layerOver(Stream below, int kind, int size) {
        switch (kind) {
            case BUFFER:
                return new Buffer(below, size);
            case PUSHBACK:
                return new Pushback(below, size);
            case LIMIT:
                return new Limit(below, size);
            case CODE:
                return new Code(below, size);
            default:
                return new Lines(below);
        }
    }

    private void refuseWhenClosed() throws IllegalStateException {
        if (closed) {
            throw new IllegalStateException();
        }
    }

    private void startReading() throws IllegalStateException {
        bag.clear();
        refuseWhenClosed();
    }

    /** Requests n bytes of the top for a call; without the 10 that belongs to a line ended by 13. */
    private int request(int n) {
        int count = top.answer(n, answered, 0);
        if (count == FAILED || count == END || !leavesOutLineFeed) {
            return count;
        }
        leavesOutLineFeed = false;
        if (answered[0] != LINE_FEED) {
            return count;
        }
        if (count == 1) {
            return top.answer(n, answered, 0);
        }
        System.arraycopy(answered, 1, answered, 0, count - 1);
        return count - 1;
    }

    private void readAll(int n) throws IllegalStateException, NoSuchElementException {
        int came = 0;
        // Each turn brings a byte at least, so n turns are enough.
        for (int turn = 0; turn < n && came < n; turn++) {
            int count = request(n - came);
            if (count == FAILED) {
                throw new IllegalStateException();
            }
            if (count == END) {
                throw new NoSuchElementException();
            }
            bag.addAll(answered, count);
            came += count;
        }
    }

    private long numberInBag(int n) {
        long number = 0;
        for (int k = 0; k < n; k++) {
            number = (number << 8) | bag.get(k);
        }
        return number;
    }

    private static boolean holdsJustLetters(Row bytes, int from) {
        int width = 0;
        for (int place = from; place < bytes.count; place += width) {
            width = letterWidth(bytes, place);
            if (width == 0) {
                return false;
            }
        }
        return true;
    }

    private void takeLetters() {
        letters.clear();
        int width = 1;
        for (int place = TEXT_LENGTH_BYTES; place < bag.count && width > 0; place += width) {
            width = letterWidth(bag, place);
            letters.add(letterOf(bag, place, width));
        }
    }

    /** How many bytes the letter at this place has; 0 when there is no letter. */
    private static int letterWidth(Row bytes, int place) {
        int width = widthByFirstByte(bytes.get(place));
        if (place + width > bytes.count) {
            return 0;
        }
        for (int k = 1; k < width; k++) {
            if ((bytes.get(place + k) & 0xC0) != 0x80) {
                return 0;
            }
        }
        return width;
    }

    private static int widthByFirstByte(int b) {
        if (b < 0x80) {
            return 1;
        }
        if ((b & 0xE0) == 0xC0) {
            return 2;
        }
        return (b & 0xF0) == 0xE0 ? 3 : 0;
    }

    private static int letterOf(Row bytes, int place, int width) {
        int first = bytes.get(place);
        int letter = width == 1 ? first : width == 2 ? first & 0x1F : first & 0x0F;
        for (int k = 1; k < width; k++) {
            letter = (letter << 6) | (bytes.get(place + k) & 0x3F);
        }
        return letter;
    }

    /** A row of numbers that is made once, emptied and filled again. */
    private static final class Row {
        final int[] items;
        int count;

        Row(int room) {
            items = new int[room];
        }

        void clear() {
            count = 0;
        }

        void add(int item) {
            if (count < items.length) {
                items[count] = item;
                count++;
            }
        }

        void addAll(int[] others, int n) {
            for (int k = 0; k < n; k++) {
                add(others[k]);
            }
        }

        int get(int k) {
            return k >= 0 && k < count ? items[k] : NONE;
        }
    }

    /** The source or a layer. Calls go down at most MOST_LAYERS levels, for push refuses more layers. */
    private abstract static class Stream {
        /** Puts 1 to n bytes into the row from this place on; how many, or END, or FAILED with nothing changed. */
        abstract int answer(int n, int[] row, int from);

        abstract int ready();

        abstract int state();

        boolean canBeMarked() {
            return false;
        }

        boolean hasMark() {
            return false;
        }

        void takeMark(int limit) {
        }

        void goBack() {
        }
    }

    private static final class Source extends Stream {
        final int[] bytes;
        final boolean[] startsPortion;
        final boolean[] broken;
        int count;
        int taken;

        Source() {
            bytes = new int[MOST_SOURCE_BYTES];
            startsPortion = new boolean[MOST_SOURCE_BYTES + 1];
            broken = new boolean[MOST_SOURCE_BYTES + 1];
        }

        boolean hasRoomFor(int n) {
            return count + n <= bytes.length;
        }

        void append(int b) {
            if (hasRoomFor(1)) {
                bytes[count] = b;
                count++;
            }
        }

        void startPortion() {
            startsPortion[count] = true;
        }

        void mend() {
            for (int place = 0; place < broken.length; place++) {
                broken[place] = false;
            }
        }

        boolean breakPlace(int place) {
            if (place < 0 || place >= broken.length) {
                return false;
            }
            broken[place] = true;
            return true;
        }

        @Override
        int answer(int n, int[] row, int from) {
            if (broken[taken]) {
                return FAILED;
            }
            int given = Math.min(n, ready());
            System.arraycopy(bytes, taken, row, from, given);
            taken += given;
            return given;
        }

        @Override
        int ready() {
            int end = taken;
            while (end < count && (end == taken || !startsPortion[end])) {
                end++;
            }
            return end - taken;
        }

        @Override
        int state() {
            return taken;
        }
    }

    private static final class Buffer extends Stream {
        final Stream below;
        final int room;
        // From first to next: given since the mark; from next to end: still to be given.
        final int[] kept;
        int first;
        int next;
        int end;
        boolean marked;
        int markLimit;

        Buffer(Stream below, int room) {
            this.below = below;
            this.room = room;
            // It is filled only when all is given, and then a mark keeps no more than its limit.
            kept = new int[MOST_MARK_LIMIT + room];
        }

        @Override
        int answer(int n, int[] row, int from) {
            if (next == end) {
                if (n >= room && !marked) {
                    return below.answer(n, row, from);
                }
                int filled = fill();
                if (filled == FAILED || filled == END) {
                    return filled;
                }
            }
            int given = Math.min(n, end - next);
            System.arraycopy(kept, next, row, from, given);
            next += given;
            forgetWhatNoMarkKeeps();
            return given;
        }

        private int fill() {
            System.arraycopy(kept, first, kept, 0, next - first);
            next -= first;
            end = next;
            first = 0;
            int filled = below.answer(room, kept, end);
            if (filled != FAILED) {
                end += filled;
            }
            return filled;
        }

        private void forgetWhatNoMarkKeeps() {
            if (next - first > markLimit) {
                marked = false;
            }
            if (!marked) {
                first = next;
            }
        }

        @Override
        int ready() {
            return end - next + below.ready();
        }

        @Override
        int state() {
            return end - next;
        }

        @Override
        boolean canBeMarked() {
            return true;
        }

        @Override
        boolean hasMark() {
            return marked;
        }

        @Override
        void takeMark(int limit) {
            marked = true;
            markLimit = limit;
            first = next;
        }

        @Override
        void goBack() {
            next = first;
        }
    }

    private static final class Pushback extends Stream {
        final Stream below;
        final int[] bytes;
        int count;

        Pushback(Stream below, int room) {
            this.below = below;
            bytes = new int[room];
        }

        boolean putBack(int b) {
            if (count >= bytes.length) {
                return false;
            }
            bytes[count] = b;
            count++;
            return true;
        }

        @Override
        int answer(int n, int[] row, int from) {
            if (count == 0) {
                return below.answer(n, row, from);
            }
            int given = Math.min(n, count);
            for (int k = 0; k < given; k++) {
                count--;
                row[from + k] = bytes[count];
            }
            return given;
        }

        @Override
        int ready() {
            return count + below.ready();
        }

        @Override
        int state() {
            return count;
        }
    }

    /** A layer that is marked and reset by marking and resetting what is below. */
    private abstract static class Passing extends Stream {
        final Stream below;

        Passing(Stream below) {
            this.below = below;
        }

        abstract void remember();

        abstract void recall();

        @Override
        int ready() {
            return below.ready();
        }

        @Override
        boolean canBeMarked() {
            return below.canBeMarked();
        }

        @Override
        boolean hasMark() {
            return below.hasMark();
        }

        @Override
        void takeMark(int limit) {
            below.takeMark(limit);
            remember();
        }

        @Override
        void goBack() {
            below.goBack();
            recall();
        }
    }

    private static final class Limit extends Passing {
        int left;
        int leftAtMark;

        Limit(Stream below, int left) {
            super(below);
            this.left = left;
            leftAtMark = left;
        }

        @Override
        int answer(int n, int[] row, int from) {
            if (left == 0) {
                return END;
            }
            int given = below.answer(Math.min(n, left), row, from);
            if (given != FAILED) {
                left -= given;
            }
            return given;
        }

        @Override
        int ready() {
            return Math.min(left, below.ready());
        }

        @Override
        int state() {
            return left;
        }

        @Override
        void remember() {
            leftAtMark = left;
        }

        @Override
        void recall() {
            left = leftAtMark;
        }
    }

    private static final class Code extends Passing {
        final int key;
        int coded;
        int codedAtMark;

        Code(Stream below, int key) {
            super(below);
            this.key = key;
        }

        @Override
        int answer(int n, int[] row, int from) {
            int given = below.answer(n, row, from);
            for (int k = 0; k < given; k++) {
                row[from + k] ^= (key + coded) & HIGHEST_BYTE;
                coded++;
            }
            return given;
        }

        @Override
        int state() {
            return coded;
        }

        @Override
        void remember() {
            codedAtMark = coded;
        }

        @Override
        void recall() {
            coded = codedAtMark;
        }
    }

    private static final class Lines extends Passing {
        int lineEnds;
        int lineEndsAtMark;
        boolean lastWasReturn;
        boolean lastWasReturnAtMark;

        Lines(Stream below) {
            super(below);
        }

        @Override
        int answer(int n, int[] row, int from) {
            int given = below.answer(n, row, from);
            for (int k = 0; k < given; k++) {
                countLineEnd(row[from + k]);
            }
            return given;
        }

        private void countLineEnd(int b) {
            if (b == CARRIAGE_RETURN || (b == LINE_FEED && !lastWasReturn)) {
                lineEnds++;
            }
            lastWasReturn = b == CARRIAGE_RETURN;
        }

        @Override
        int state() {
            return lineEnds;
        }

        @Override
        void remember() {
            lineEndsAtMark = lineEnds;
            lastWasReturnAtMark = lastWasReturn;
        }

        @Override
        void recall() {
            lineEnds = lineEndsAtMark;
            lastWasReturn = lastWasReturnAtMark;
        }
    }
}
