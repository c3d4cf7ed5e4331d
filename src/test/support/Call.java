import java.util.ArrayList;
import java.util.List;
import java.util.NoSuchElementException;

/** One call of the face, written as in an issue: some(3), at(0, false), feed(0x6162, 2). */
record Call(String name, List<String> args) {
    static Call of(String text) {
        int open = text.indexOf('(');
        List<String> args = new ArrayList<>();
        for (String arg : text.substring(open + 1, text.lastIndexOf(')')).split(",")) {
            if (!arg.isBlank()) {
                args.add(arg.trim());
            }
        }
        return new Call(text.substring(0, open).trim(), args);
    }

    int number(int k) {
        return Long.decode(args.get(k)).intValue();
    }

    boolean truth(int k) {
        String arg = args.get(k);
        if (!arg.equals("true") && !arg.equals("false")) {
            throw new AssertionError("neither true nor false: " + this);
        }
        return arg.equals("true");
    }

    /** What the object answers, as text; an exception as throws.Name, whatever it is. */
    String on(StreamTower x) {
        try {
            return plainAnswer(x);
        } catch (RuntimeException e) {
            return "throws." + e.getClass().getSimpleName();
        }
    }

    private String plainAnswer(StreamTower x) throws NoSuchElementException {
        switch (name) {
            case "feed": return "" + x.feed(number(0), number(1));
            case "portion": x.portion(); return "done";
            case "breakAt": return "" + x.breakAt(number(0));
            case "push": return "" + x.push(number(0), number(1));
            case "read": return "" + x.read();
            case "some": return "" + x.some(number(0));
            case "full": x.full(number(0)); return "done";
            case "skip": return "" + x.skip(number(0));
            case "number": return "" + x.number(number(0));
            case "text": return "" + x.text();
            case "line": return "" + x.line();
            case "mark": x.mark(number(0)); return "done";
            case "reset": x.reset(); return "done";
            case "unread": x.unread(number(0)); return "done";
            case "available": return "" + x.available();
            case "close": x.close(); return "done";
            case "about": return "" + x.about(number(0));
            case "size": return "" + x.size(truth(0));
            case "at": return "" + x.at(number(0), truth(1));
            default: throw new AssertionError("no such call: " + name);
        }
    }

    @Override
    public String toString() {
        return name + "(" + String.join(", ", args) + ")";
    }
}
