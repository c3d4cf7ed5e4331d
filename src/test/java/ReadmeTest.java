import java.io.IOException;
import java.nio.file.Files;
import java.nio.file.Path;
import java.util.ArrayList;
import java.util.List;
import java.util.TreeSet;
import java.util.regex.Matcher;
import java.util.regex.Pattern;
import java.util.stream.Stream;

/** What README.md says is so: its examples, its tables' sizes and names, and the tests that it names. */
public final class ReadmeTest {
    private static final Pattern EXAMPLE = Pattern.compile("(?s)```java\n(.*?)```");
    private static final Pattern ROW = Pattern.compile("tower\\.(\\w+\\(.*?\\));\\s*(?://\\s*(.*))?");
    private static final Pattern ANSWER = Pattern.compile("(-?\\d+|true|false|StreamTower\\.NONE|throws \\w+)(:.*)?");
    private static final Pattern KIND = Pattern.compile("(?m)^\\| (\\d) +\\| \\w+ +\\| (\\d+)(?: \\.\\. (\\d+))? +\\|");
    private static final Pattern CALL = Pattern.compile("(?m)^\\| `(\\w+)\\(([^)]*)\\)` ");
    private static final Pattern NAMED = Pattern.compile("`(\\w+Test)`");

    public static void main(String[] args) throws IOException {
        Runs t = new Runs();
        String readme = Files.readString(Path.of("README.md"));
        examples(t, readme);
        kinds(t, readme);
        calls(t, readme);
        tests(t, readme);
        t.end();
    }

    private static void examples(Runs t, String readme) {
        Matcher example = EXAMPLE.matcher(readme);
        int found = 0;
        while (example.find()) {
            found++;
            String[] lines = example.group(1).strip().split("\n");
            t.due("example " + found, "its first line", lines[0], "StreamTower tower = new StreamTower();");
            List<String> run = new ArrayList<>();
            for (int k = 1; k < lines.length; k++) {
                Matcher row = ROW.matcher(lines[k]);
                t.due("example " + found, lines[k] + " is a row", "" + row.matches(), "true");
                run.add(row.group(1) + " -> " + answer(row.group(2)));
            }
            t.run("example " + found, run.toArray(new String[0]));
        }
        t.due("examples", "there are some", "" + (found > 0), "true");
    }

    /** A comment that does not begin with an answer stands behind a void call. */
    private static String answer(String comment) {
        Matcher answer = ANSWER.matcher(comment == null ? "" : comment.strip());
        if (!answer.matches()) {
            return "done";
        }
        return answer.group(1).replace("StreamTower.NONE", "" + StreamTower.NONE).replace("throws ", "throws.");
    }

    private static void kinds(Runs t, String readme) {
        Matcher kind = KIND.matcher(readme);
        StringBuilder kinds = new StringBuilder();
        while (kind.find()) {
            kinds.append(kind.group(1));
            int least = Integer.parseInt(kind.group(2));
            int most = kind.group(3) == null ? least : Integer.parseInt(kind.group(3));
            for (int size = least - 1; size <= most + 1; size++) {
                String due = size < least || size > most ? "throws.IllegalArgumentException" : "0";
                t.run("the table of layers", "push(" + kind.group(1) + ", " + size + ") -> " + due);
            }
        }
        t.due("the table of layers", "its kinds", kinds.toString(), "12345");
    }

    private static void calls(Runs t, String readme) {
        TreeSet<String> told = new TreeSet<>();
        Matcher call = CALL.matcher(readme);
        while (call.find()) {
            told.add(call.group(1) + " " + (call.group(2).isEmpty() ? 0 : call.group(2).split(",").length));
        }
        TreeSet<String> there = new TreeSet<>();
        for (java.lang.reflect.Method m : StreamTower.class.getDeclaredMethods()) {
            if (java.lang.reflect.Modifier.isPublic(m.getModifiers())) {
                there.add(m.getName() + " " + m.getParameterCount());
            }
        }
        t.due("the table of calls", "all calls", told.toString(), there.toString());
    }

    private static void tests(Runs t, String readme) throws IOException {
        TreeSet<String> named = new TreeSet<>();
        Matcher name = NAMED.matcher(readme);
        while (name.find()) {
            named.add(name.group(1));
        }
        TreeSet<String> there = new TreeSet<>();
        try (Stream<Path> files = Files.list(Path.of("src/test/java"))) {
            files.forEach(file -> there.add(file.getFileName().toString().replace(".java", "")));
        }
        t.due("the tests", "all of them", named.toString(), there.toString());
    }
}
