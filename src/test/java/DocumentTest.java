import java.io.IOException;
import java.nio.file.Files;
import java.nio.file.Path;
import java.util.ArrayList;
import java.util.LinkedHashMap;
import java.util.List;
import java.util.Map;
import java.util.TreeSet;
import java.util.regex.Matcher;
import java.util.regex.Pattern;
import java.util.stream.Stream;

/** Each sentence of the document is quoted by a test, in its own section, and each quote stands there word for word. */
public final class DocumentTest {
    private static final Path DOCUMENT = Path.of("../shared/DOC.md");
    private static final Path LANGUAGE = Path.of("../shared/LANGUAGE.md");
    private static final Path TESTS = Path.of("src/test/java");

    /** Nothing that a call does can break these words: they leave something free. */
    private static final String FREE_SECTION = "Not promised";
    private static final String FREE_WORDS = "what later calls answer is free";

    private static final String LITERALS = "((?:\"(?:[^\"\\\\]|\\\\.)*\"[\\s+]*)+)";
    private static final Pattern SAYS = Pattern.compile("says\\(\"([^\"]*)\",\\s*" + LITERALS + "\\)");
    private static final Pattern MEMBER = Pattern.compile("member\\(" + LITERALS + "\\)");

    private record Quote(String section, String words) {
    }

    public static void main(String[] args) throws IOException {
        if (!Files.isReadable(DOCUMENT) || !Files.isReadable(LANGUAGE)) {
            System.out.println("no document beside this checkout: its quotes are not looked at");
            return;
        }
        Runs t = new Runs();
        Map<String, String> sections = sections(Files.readString(DOCUMENT));
        sections.put("LANGUAGE.md", plain(Files.readString(LANGUAGE)));
        List<Quote> quotes = quotes();
        for (Quote quote : quotes) {
            String section = sections.getOrDefault(quote.section, "");
            t.due(quote.section, quote.words, "" + section.contains(quote.words), "true");
        }
        sections.remove("LANGUAGE.md");
        t.due("sections", "all of them", new TreeSet<>(sections.keySet()).toString(), expectedSections().toString());
        sections.remove(FREE_SECTION);
        for (String section : sections.keySet()) {
            t.due(section, "what no test quotes", notQuoted(section, sections.get(section), quotes), "");
        }
        t.end();
    }

    private static TreeSet<String> expectedSections() {
        TreeSet<String> sections = new TreeSet<>(List.of("What it is", "The public face", "Terms", FREE_SECTION));
        for (int promise = 1; promise <= 20; promise++) {
            sections.add("Promise " + promise);
        }
        return sections;
    }

    private static String plain(String text) {
        return text.replaceAll("\\s+", " ");
    }

    /** "Promise 7: some" is the section "Promise 7"; what the heading adds is the call's name. */
    private static Map<String, String> sections(String document) {
        Map<String, String> sections = new LinkedHashMap<>();
        String[] parts = document.split("(?m)^## ");
        for (int k = 1; k < parts.length; k++) {
            int end = parts[k].indexOf('\n');
            sections.put(parts[k].substring(0, end).split(":")[0], plain(parts[k].substring(end)));
        }
        return sections;
    }

    private static List<Quote> quotes() throws IOException {
        List<Quote> quotes = new ArrayList<>();
        List<Path> files;
        try (Stream<Path> list = Files.list(TESTS)) {
            files = list.filter(file -> file.toString().endsWith(".java")).sorted().toList();
        }
        for (Path file : files) {
            String source = Files.readString(file);
            Matcher says = SAYS.matcher(source);
            while (says.find()) {
                quotes.add(new Quote(says.group(1).split(",")[0], joined(says.group(2))));
            }
            Matcher member = MEMBER.matcher(source);
            while (member.find()) {
                quotes.add(new Quote("The public face", joined(member.group(1))));
            }
        }
        return quotes;
    }

    private static String joined(String literals) {
        return literals.trim().replaceAll("\"\\s*\\+\\s*\"", "").replaceAll("^\"|\"$", "");
    }

    /** The words outside all quotes. A promise begins with its line of the face, which is quoted there. */
    private static String notQuoted(String section, String text, List<Quote> quotes) {
        boolean[] quoted = new boolean[text.length()];
        cover(quoted, text, FREE_WORDS);
        cover(quoted, text, "```java");
        cover(quoted, text, "```text");
        for (Quote quote : quotes) {
            if (quote.section.equals(section)) {
                cover(quoted, text, quote.words);
            } else if (quote.section.equals("The public face")) {
                cover(quoted, text, "`" + quote.words.replace("public ", "").replace(";", "") + "`:");
            }
        }
        StringBuilder rest = new StringBuilder();
        for (int k = 0; k < text.length(); k++) {
            rest.append(quoted[k] ? ' ' : text.charAt(k));
        }
        return rest.toString().replaceAll("[^A-Za-z0-9]+", " ").trim();
    }

    private static void cover(boolean[] quoted, String text, String words) {
        for (int from = text.indexOf(words); from >= 0; from = text.indexOf(words, from + 1)) {
            java.util.Arrays.fill(quoted, from, from + words.length(), true);
        }
    }
}
