import java.util.ArrayDeque;
import java.util.ArrayList;
import java.util.Deque;
import java.util.HashSet;
import java.util.List;
import java.util.Set;

/** The document's words once more, slow and with lists, to be held against the program. */
final class Model {
    /** An exception of the face, by its name. */
    private static final class Thrown extends Exception {
        final String name;

        Thrown(String name) {
            this.name = name;
        }
    }

    private static final class Failure extends Exception {
    }

    private static final String ARGUMENT = "IllegalArgumentException";
    private static final String STATE = "IllegalStateException";
    private static final String ELEMENT = "NoSuchElementException";
    private static final String UNSUPPORTED = "UnsupportedOperationException";

    /** One layer with the fields of all kinds. */
    private static final class Layer {
        final int kind;
        final int size;
        List<Integer> toGive = new ArrayList<>();
        List<Integer> givenSinceMark;
        int markLimit;
        final Deque<Integer> putBack = new ArrayDeque<>();
        // left, k, count and whether 13 was last: now, and as remembered
        int[] now = new int[4];
        int[] remembered;

        Layer(int kind, int size) {
            this.kind = kind;
            this.size = size;
            now[0] = size;
            remembered = now.clone();
        }
    }

    private final List<List<Integer>> portions = new ArrayList<>(List.of(new ArrayList<>()));
    private final Set<Integer> broken = new HashSet<>();
    private int taken;
    private final List<Layer> layers = new ArrayList<>();
    private boolean closed;
    private final List<Integer> bag = new ArrayList<>();
    private List<Integer> letters = new ArrayList<>();
    private boolean leaveOut;
    private boolean leaveOutAtMark;

    String answer(Call c) {
        try {
            if (List.of("read", "some", "full", "skip", "number", "text", "line").contains(c.name())) {
                bag.clear();
                refuse(closed, STATE);
            }
            if (List.of("mark", "reset", "unread").contains(c.name())) {
                refuse(closed, STATE);
            }
            return plainAnswer(c);
        } catch (Thrown e) {
            return "throws." + e.name;
        } catch (Failure e) {
            return "throws." + STATE;
        }
    }

    private String plainAnswer(Call c) throws Thrown, Failure {
        switch (c.name()) {
            case "feed": return "" + feed(c.number(0), c.number(1));
            case "portion": portion(); return "done";
            case "breakAt": return "" + breakAt(c.number(0));
            case "push": return "" + push(c.number(0), c.number(1));
            case "read": return "" + read();
            case "some": return "" + some(c.number(0));
            case "full": refuseUnless(0, c.number(0), 60); full(c.number(0)); return "done";
            case "skip": return "" + skip(c.number(0));
            case "number": refuseUnless(1, c.number(0), 8); return "" + number(c.number(0));
            case "text": return "" + text();
            case "line": return "" + line();
            case "mark": mark(c.number(0)); return "done";
            case "reset": reset(); return "done";
            case "unread": unread(c.number(0)); return "done";
            case "available": return "" + available(layers.size() - 1);
            case "close": closed = true; return "done";
            case "about": return "" + about(c.number(0));
            case "size": return "" + (c.truth(0) ? letters : bag).size();
            case "at": return "" + at(c.truth(1) ? letters : bag, c.number(0));
            default: throw new AssertionError(c.name());
        }
    }

    private static void refuse(boolean when, String name) throws Thrown {
        if (when) {
            throw new Thrown(name);
        }
    }

    private static void refuseUnless(int least, int n, int most) throws Thrown {
        refuse(n < least || n > most, ARGUMENT);
    }

    private int sourceSize() {
        int size = 0;
        for (List<Integer> portion : portions) {
            size += portion.size();
        }
        return size;
    }

    private List<Integer> restOfPortion() {
        int before = 0;
        for (List<Integer> portion : portions) {
            if (taken < before + portion.size()) {
                return portion.subList(taken - before, portion.size());
            }
            before += portion.size();
        }
        return List.of();
    }

    private int feed(int w, int n) throws Thrown {
        refuseUnless(1, n, 4);
        refuse(sourceSize() + n > 120, STATE);
        byte[] all = {(byte) (w >> 24), (byte) (w >> 16), (byte) (w >> 8), (byte) w};
        for (int k = 4 - n; k < 4; k++) {
            portions.get(portions.size() - 1).add(Byte.toUnsignedInt(all[k]));
        }
        return sourceSize();
    }

    private void portion() {
        if (!portions.get(portions.size() - 1).isEmpty()) {
            portions.add(new ArrayList<>());
        }
    }

    private boolean breakAt(int place) {
        if (place < -1 || place > 120) {
            return false;
        }
        if (place == -1) {
            broken.clear();
        } else {
            broken.add(place);
        }
        return true;
    }

    private int push(int kind, int size) throws Thrown {
        int[][] sizes = {{1, 16}, {1, 8}, {0, 200}, {0, 255}, {0, 0}};
        refuseUnless(1, kind, 5);
        refuseUnless(sizes[kind - 1][0], size, sizes[kind - 1][1]);
        refuse(closed || layers.size() == 5, STATE);
        layers.add(new Layer(kind, size));
        return layers.size() - 1;
    }

    /** Takes n, or all when there are fewer, from the front. */
    private static List<Integer> front(List<Integer> from, int n) {
        return new ArrayList<>(from.subList(0, Math.min(n, from.size())));
    }

    private List<Integer> request(int layer, int n) throws Failure {
        if (n < 1) {
            throw new AssertionError("a request of " + n);
        }
        if (layer < 0) {
            if (broken.contains(taken)) {
                throw new Failure();
            }
            List<Integer> got = front(restOfPortion(), n);
            taken += got.size();
            return got;
        }
        Layer l = layers.get(layer);
        switch (l.kind) {
            case 1: return requestBuffer(l, layer, n);
            case 2: return requestPushback(l, layer, n);
            case 3: return requestLimit(l, layer, n);
            case 4: return requestCode(l, layer, n);
            default: return requestLines(l, layer, n);
        }
    }

    private List<Integer> requestBuffer(Layer l, int layer, int n) throws Failure {
        if (l.toGive.isEmpty() && n >= l.size && l.givenSinceMark == null) {
            return request(layer - 1, n);
        }
        if (l.toGive.isEmpty()) {
            l.toGive = new ArrayList<>(request(layer - 1, l.size));
        }
        List<Integer> got = front(l.toGive, n);
        l.toGive = new ArrayList<>(l.toGive.subList(got.size(), l.toGive.size()));
        if (l.givenSinceMark != null) {
            l.givenSinceMark.addAll(got);
            if (l.givenSinceMark.size() > l.markLimit) {
                l.givenSinceMark = null;
            }
        }
        return got;
    }

    private List<Integer> requestPushback(Layer l, int layer, int n) throws Failure {
        if (l.putBack.isEmpty()) {
            return request(layer - 1, n);
        }
        List<Integer> got = new ArrayList<>();
        while (got.size() < n && !l.putBack.isEmpty()) {
            got.add(l.putBack.pop());
        }
        return got;
    }

    private List<Integer> requestLimit(Layer l, int layer, int n) throws Failure {
        if (l.now[0] == 0) {
            return List.of();
        }
        List<Integer> got = request(layer - 1, Math.min(n, l.now[0]));
        l.now[0] -= got.size();
        return got;
    }

    private List<Integer> requestCode(Layer l, int layer, int n) throws Failure {
        List<Integer> got = new ArrayList<>();
        for (int b : request(layer - 1, n)) {
            got.add(b ^ (l.size + l.now[1]) % 256);
            l.now[1]++;
        }
        return got;
    }

    private List<Integer> requestLines(Layer l, int layer, int n) throws Failure {
        List<Integer> got = request(layer - 1, n);
        for (int b : got) {
            boolean second = b == 10 && l.now[3] == 1;
            if ((b == 10 || b == 13) && !second) {
                l.now[2]++;
            }
            l.now[3] = b == 13 ? 1 : 0;
        }
        return got;
    }

    /** What a call reads by a request of n to the top. */
    private List<Integer> reads(int n) throws Failure {
        List<Integer> got = request(layers.size() - 1, n);
        if (got.isEmpty()) {
            return got;
        }
        boolean leftOut = leaveOut && got.get(0) == 10;
        leaveOut = false;
        if (!leftOut) {
            return got;
        }
        return got.size() > 1 ? got.subList(1, got.size()) : request(layers.size() - 1, n);
    }

    private int read() throws Failure {
        bag.addAll(reads(1));
        return bag.isEmpty() ? -1 : bag.get(0);
    }

    private int some(int n) throws Thrown, Failure {
        refuseUnless(1, n, 60);
        bag.addAll(reads(n));
        return bag.isEmpty() ? -1 : bag.size();
    }

    private void full(int n) throws Thrown, Failure {
        int due = bag.size() + n;
        while (bag.size() < due) {
            List<Integer> got = reads(due - bag.size());
            refuse(got.isEmpty(), ELEMENT);
            bag.addAll(got);
        }
    }

    private int skip(int n) throws Thrown, Failure {
        refuseUnless(0, n, 120);
        int came = 0;
        try {
            full(n);
        } catch (Thrown end) {
            return bag.size();
        } catch (Failure e) {
            if (bag.isEmpty()) {
                throw e;
            }
        } finally {
            came = bag.size();
            bag.clear();
        }
        return came;
    }

    private long number(int n) throws Thrown, Failure {
        full(n);
        java.math.BigInteger number = java.math.BigInteger.ZERO;
        for (int b : bag) {
            number = number.multiply(java.math.BigInteger.valueOf(256)).add(java.math.BigInteger.valueOf(b));
        }
        return number.longValue();
    }

    private int text() throws Thrown, Failure {
        int length = (int) number(2);
        refuse(length > 118, ARGUMENT);
        full(length);
        StringBuilder bits = new StringBuilder();
        for (int b : bag.subList(2, bag.size())) {
            bits.append(Integer.toBinaryString(256 + b).substring(1));
        }
        List<Integer> found = new ArrayList<>();
        String rest = bits.toString();
        while (!rest.isEmpty()) {
            String letter = lettersBits(rest);
            refuse(letter.isEmpty(), ARGUMENT);
            found.add(Integer.parseInt(letter, 2));
            rest = rest.substring(letter.length() == 7 ? 8 : letter.length() == 11 ? 16 : 24);
        }
        letters = found;
        return letters.size();
    }

    private static String lettersBits(String bits) {
        if (bits.matches("0.*")) {
            return bits.substring(1, 8);
        }
        if (bits.matches("110.....10.*")) {
            return bits.substring(3, 8) + bits.substring(10, 16);
        }
        if (bits.matches("1110....10......10.*")) {
            return bits.substring(4, 8) + bits.substring(10, 16) + bits.substring(18, 24);
        }
        return "";
    }

    private int line() throws Failure {
        while (true) {
            List<Integer> got = reads(1);
            if (got.isEmpty()) {
                return bag.isEmpty() ? -1 : bag.size();
            }
            if (got.get(0) == 13) {
                leaveOut = true;
            }
            if (got.get(0) == 10 || got.get(0) == 13) {
                return bag.size();
            }
            bag.add(got.get(0));
        }
    }

    /** The layers from the top to the BUFFER that a mark reaches; none when the top can not be marked. */
    private List<Layer> marked() {
        List<Layer> reached = new ArrayList<>();
        for (int k = layers.size() - 1; k >= 0; k--) {
            reached.add(layers.get(k));
            if (layers.get(k).kind == 1) {
                return reached;
            }
            if (layers.get(k).kind == 2) {
                return List.of();
            }
        }
        return List.of();
    }

    private void mark(int limit) throws Thrown {
        refuseUnless(0, limit, 32);
        refuse(marked().isEmpty(), UNSUPPORTED);
        for (Layer l : marked()) {
            if (l.kind == 1) {
                l.givenSinceMark = new ArrayList<>();
                l.markLimit = limit;
            } else {
                l.remembered = l.now.clone();
            }
        }
        leaveOutAtMark = leaveOut;
    }

    private void reset() throws Thrown {
        List<Layer> reached = marked();
        refuse(reached.isEmpty(), UNSUPPORTED);
        Layer buffer = reached.get(reached.size() - 1);
        refuse(buffer.givenSinceMark == null, STATE);
        buffer.toGive.addAll(0, buffer.givenSinceMark);
        buffer.givenSinceMark.clear();
        for (Layer l : reached) {
            l.now = l.remembered.clone();
        }
        leaveOut = leaveOutAtMark;
    }

    private void unread(int b) throws Thrown {
        refuseUnless(0, b, 255);
        refuse(layers.isEmpty() || layers.get(layers.size() - 1).kind != 2, UNSUPPORTED);
        Layer top = layers.get(layers.size() - 1);
        refuse(top.putBack.size() == top.size, STATE);
        top.putBack.push(b);
    }

    private int available(int layer) {
        if (layer < 0) {
            return restOfPortion().size();
        }
        Layer l = layers.get(layer);
        int below = available(layer - 1);
        return l.kind == 3 ? Math.min(below, l.now[0]) : below + l.toGive.size() + l.putBack.size();
    }

    private int about(int layer) {
        if (layer == -1) {
            return taken;
        }
        if (layer < 0 || layer >= layers.size()) {
            return -1;
        }
        Layer l = layers.get(layer);
        int[] states = {l.toGive.size(), l.putBack.size(), l.now[0], l.now[1], l.now[2]};
        return states[l.kind - 1];
    }

    private static int at(List<Integer> row, int k) {
        return k < 0 || k >= row.size() ? -1 : row.get(k);
    }
}
