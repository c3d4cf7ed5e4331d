import java.util.ArrayList;
import java.util.List;
import java.util.Map;
import java.util.TreeMap;

/** Many made-up runs of 512 calls at most, the same ones each time, whose answers must be those of the model. */
public final class ModelTest {
    private static final int RUNS = 4000;
    private static final int[] EXTREME = {-2147483648, -2, -1, 0, 1, 8, 9, 16, 17, 32, 33, 60, 61, 118, 119, 120, 121,
        200, 201, 255, 256, 2147483647};
    private static final int[] FAVOURED = {10, 13, 10, 13, 0, 97, 2, 3, 0xC3, 0xA4, 0xE2, 0x82, 255};

    private long seed;

    private ModelTest(long seed) {
        this.seed = seed;
    }

    public static void main(String[] args) {
        Runs t = new Runs();
        Map<String, Integer> seen = new TreeMap<>();
        for (int run = 0; run < RUNS; run++) {
            new ModelTest(run).compare(t, run, seen);
        }
        // A made-up run that never gets somewhere tests nothing there.
        for (String kind : List.of("reset done", "reset throws.IllegalStateException", "text throws.IllegalArgumentException",
            "text number", "text throws.NoSuchElementException", "text throws.IllegalStateException", "unread done",
            "unread throws.IllegalStateException", "line number", "line throws.IllegalStateException",
            "feed throws.IllegalStateException", "skip throws.IllegalStateException")) {
            t.due("made-up runs", "often enough: " + kind, "" + (seen.getOrDefault(kind, 0) > 100), "true");
        }
        t.end();
    }

    private int below(int n) {
        seed = seed * 6364136223846793005L + 1442695040888963407L;
        return (int) ((seed >>> 33) % n);
    }

    private int number(int least, int most) {
        return below(60) == 0 ? EXTREME[below(EXTREME.length)] : least + below(most - least + 1);
    }

    private void compare(Runs t, int run, Map<String, Integer> seen) {
        StreamTower x = new StreamTower();
        Model model = new Model();
        List<String> calls = new ArrayList<>();
        int length = below(4) == 0 ? 512 : 90;
        while (calls.size() < length) {
            for (String text : next(calls.isEmpty())) {
                Call call = Call.of(text);
                calls.add(text);
                String want = model.answer(call);
                String got = call.on(x);
                if (!got.equals(want)) {
                    t.due("made-up run " + run, String.join("; ", calls), got, want);
                    return;
                }
                String kind = want.matches("-?\\d+") ? "number" : want;
                seen.merge(call.name() + " " + kind, 1, Integer::sum);
            }
        }
        lookAround(t, run, x, model);
    }

    private void lookAround(Runs t, int run, StreamTower x, Model model) {
        List<String> calls = new ArrayList<>(List.of("available()", "size(true)", "size(false)"));
        for (int k = -2; k < 170; k++) {
            calls.add("about(" + k + ")");
            calls.add("at(" + k + ", true)");
            calls.add("at(" + k + ", false)");
        }
        for (String call : calls) {
            t.due("made-up run " + run, call, Call.of(call).on(x), model.answer(Call.of(call)));
        }
    }

    /** One or a few calls; a tower starts with something to read. */
    private List<String> next(boolean first) {
        List<String> calls = new ArrayList<>();
        if (first) {
            for (int k = below(12); k >= 0; k--) {
                calls.add(feed());
            }
            return calls;
        }
        switch (below(32)) {
            case 0: case 1: calls.add(feed()); break;
            case 2: calls.add("portion()"); calls.add(feed()); break;
            case 3: calls.add("breakAt(" + (below(3) > 0 ? -1 : number(0, 60)) + ")"); break;
            case 4: if (below(3) == 0) { calls.add(push()); } break;
            case 5: case 6: calls.add("read()"); break;
            case 7: case 8: calls.add("some(" + number(1, 9) + ")"); break;
            case 9: calls.add("full(" + number(0, 6) + ")"); break;
            case 10: calls.add("skip(" + number(0, 6) + ")"); break;
            case 11: calls.add("number(" + number(1, 4) + ")"); break;
            case 12: calls.add("text()"); break;
            case 13: text(calls); break;
            case 14: case 15: case 16: calls.add("line()"); break;
            case 17: case 18: calls.add("mark(" + number(0, 12) + ")"); break;
            case 19: case 20: case 21: calls.add("reset()"); break;
            case 22: case 23: calls.add("unread(" + (below(2) > 0 ? 10 : number(0, 255)) + ")"); break;
            case 24: calls.add("available()"); break;
            case 25: if (below(40) == 0) { calls.add("close()"); } break;
            case 26: case 27: calls.add("about(" + number(-1, 4) + ")"); break;
            case 28: calls.add("size(" + (below(2) == 0) + ")"); break;
            default: calls.add("at(" + number(0, 8) + ", " + (below(3) == 0) + ")"); break;
        }
        return calls;
    }

    private String feed() {
        int w = 0;
        for (int k = 0; k < 4; k++) {
            w = w << 8 | (below(3) > 0 ? FAVOURED[below(FAVOURED.length)] : below(256));
        }
        return "feed(" + w + ", " + number(1, 4) + ")";
    }

    private String push() {
        int kind = number(1, 5);
        int[] most = {6, 4, 60, 255, 0};
        int size = kind >= 1 && kind <= 5 ? number(kind < 3 ? 1 : 0, most[kind - 1]) : below(9);
        // A key of 0 keeps most line ends and letters what they are.
        return "push(" + kind + ", " + (kind == 4 && below(2) == 0 ? 0 : size) + ")";
    }

    /** A text of its own at the end of the source, with all before it skipped. */
    private void text(List<String> calls) {
        String[] letters = {"0xC3A4, 2", "0xE282AC, 3", "0x41, 1", "0x4142, 2", "0xC341, 2", "0x80, 1", "0xE28241, 3"};
        String letter = letters[below(letters.length)];
        calls.add("skip(120)");
        calls.add("feed(" + letter.charAt(letter.length() - 1) + ", 2)");
        calls.add("feed(" + letter + ")");
        calls.add("text()");
    }
}
