import java.util.ArrayList;
import java.util.List;

/** Runs of calls on new objects, each row a call and the answer that is due: "some(3) -> 3". */
final class Runs {
    /** What is asked of two objects that should be in one state: each list on objects of its own. */
    private static final String[][] PROBES = {
        {"available()", "about(-1)", "about(0)", "about(1)", "about(2)", "about(3)", "about(4)", "about(5)"},
        {"some(2)", "line()", "skip(120)"},
        {"breakAt(-1)", "some(60)", "read()", "line()", "skip(120)"},
        {"reset()", "full(3)", "reset()", "line()", "about(-1)"},
        {"breakAt(-1)", "skip(1)", "reset()", "full(2)", "reset()", "full(32)", "reset()", "some(60)"},
        {"unread(7)", "unread(8)", "some(9)", "some(9)"},
        {"feed(1, 1)", "available()", "breakAt(-1)", "skip(120)", "read()"},
        {"portion()", "feed(0x0102, 2)", "breakAt(-1)", "skip(120)", "feed(3, 1)", "some(9)"},
        {"push(5, 0)", "about(4)", "mark(32)", "breakAt(-1)", "line()", "reset()", "line()"},
    };

    private String sentence = "";
    private int rowsOfSentence;
    private int rows;
    private int wrong;

    /** The document's words that the runs from here on test: they stand before each wrong answer. */
    void says(String where, String words) {
        endSentence();
        sentence = where + ": \"" + words + "\": ";
        rowsOfSentence = 0;
    }

    /** Words that no row tests would look as if they were tested. */
    private void endSentence() {
        if (!sentence.isEmpty() && rowsOfSentence == 0) {
            wrong++;
            System.out.println(sentence + "no row tests these words");
        }
    }

    /** A void call that throws nothing is answered "done"; "bag 1 2 3" and "letters 65" look at all of a row. */
    void run(String title, String... run) {
        on(new StreamTower(), title, run);
    }

    private void on(StreamTower x, String title, String... run) {
        for (String row : run) {
            if (row.startsWith("bag") || row.startsWith("letters")) {
                due(title, row, whole(x, row.startsWith("letters")), row);
            } else {
                int arrow = row.lastIndexOf("->");
                String call = row.substring(0, arrow).trim();
                due(title, call, Call.of(call).on(x), row.substring(arrow + 2).trim());
            }
        }
    }

    /** Behind this run, the last row's call is answered so and changes nothing but, maybe, the bag. */
    void unchanged(String title, String last, String... before) {
        for (String[] probe : PROBES) {
            StreamTower with = new StreamTower();
            StreamTower without = new StreamTower();
            on(with, title, before);
            on(without, title, before);
            on(with, title, last);
            due(title, "letters behind " + last, whole(with, true), whole(without, true));
            for (String call : probe) {
                due(title, call + " behind " + last, Call.of(call).on(with), Call.of(call).on(without));
            }
        }
    }

    void due(String title, String call, String got, String want) {
        rows++;
        rowsOfSentence++;
        if (!got.equals(want)) {
            wrong++;
            System.out.println(sentence + title + ": " + call + " answered " + got + ", due is " + want);
        }
    }

    private static String whole(StreamTower x, boolean letters) {
        List<String> items = new ArrayList<>();
        items.add(letters ? "letters" : "bag");
        for (int k = 0; k < x.size(letters); k++) {
            items.add("" + x.at(k, letters));
        }
        return String.join(" ", items);
    }

    /** Feeds n bytes of this value to a new object, one a call. */
    static String[] fed(int value, int n, String... rest) {
        return rows(fedBehind(0, value, n), rest);
    }

    /** Feeds n bytes of this value, one a call, behind so many that are there. */
    static String[] fedBehind(int there, int value, int n) {
        String[] run = new String[n];
        for (int k = 0; k < n; k++) {
            run[k] = "feed(" + value + ", 1) -> " + (there + k + 1);
        }
        return run;
    }

    static String[] times(int n, String row) {
        String[] run = new String[n];
        java.util.Arrays.fill(run, row);
        return run;
    }

    /** Rows and arrays of rows, one behind the other. */
    static String[] rows(Object... parts) {
        List<String> run = new ArrayList<>();
        for (Object part : parts) {
            if (part instanceof String[] many) {
                run.addAll(List.of(many));
            } else {
                run.add((String) part);
            }
        }
        return run.toArray(new String[0]);
    }

    void end() {
        endSentence();
        System.out.println(wrong == 0 ? rows + " rows are as due" : wrong + " answers are not as due");
        if (wrong != 0) {
            System.exit(1);
        }
    }
}
