import java.util.ArrayList;
import java.util.List;

/** Runs of calls on new objects, each row a call and the answer that is due: "some(3) -> 3". */
final class Runs {
    private int rows;
    private int wrong;

    /** A void call that throws nothing is answered "done"; "bag 1 2 3" and "letters 65" look at all of a row. */
    void run(String title, String... run) {
        StreamTower x = new StreamTower();
        for (String row : run) {
            if (row.startsWith("bag") || row.startsWith("letters")) {
                due(title, row, whole(x, row.startsWith("letters")), row);
            } else {
                int arrow = row.lastIndexOf("->");
                String call = row.substring(0, arrow).trim();
                due(title, call, Call.of(call).on(x), row.substring(arrow + 2).trim());
            }
        }
    }

    void due(String title, String call, String got, String want) {
        rows++;
        if (!got.equals(want)) {
            wrong++;
            System.out.println(title + ": " + call + " answered " + got + ", due is " + want);
        }
    }

    private static String whole(StreamTower x, boolean letters) {
        List<String> items = new ArrayList<>();
        items.add(letters ? "letters" : "bag");
        for (int k = 0; k < x.size(letters); k++) {
            items.add("" + x.at(k, letters));
        }
        return String.join(" ", items);
    }

    /** Feeds n bytes of this value, one a call. */
    static String[] fed(int value, int n, String... rest) {
        List<String> run = new ArrayList<>();
        for (int k = 1; k <= n; k++) {
            run.add("feed(" + value + ", 1) -> " + k);
        }
        run.addAll(List.of(rest));
        return run.toArray(new String[0]);
    }

    void end() {
        System.out.println(wrong == 0 ? rows + " rows are as due" : wrong + " answers are not as due");
        if (wrong != 0) {
            System.exit(1);
        }
    }
}
