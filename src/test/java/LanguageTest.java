import java.io.IOException;
import java.lang.reflect.Field;
import java.lang.reflect.Method;
import java.lang.reflect.Modifier;
import java.nio.file.Files;
import java.nio.file.Path;
import java.util.ArrayList;
import java.util.List;
import java.util.TreeSet;
import java.util.regex.Matcher;
import java.util.regex.Pattern;

/** Those rules of LANGUAGE.md that can be seen in the compiled classes, in the file's words and in what is thrown. */
public final class LanguageTest {
    private static final int MOST_CLASSES = 12;
    private static final int MOST_FIELDS = 20;
    private static final int MOST_PARAMETERS = 7;

    private final Runs t = new Runs();

    public static void main(String[] args) throws IOException {
        LanguageTest test = new LanguageTest();
        test.names();
        test.classes();
        test.words(Files.readString(Path.of("src/main/java/StreamTower.java")));
        test.thrownByAnyCall();
        test.t.end();
    }

    private void names() {
        t.says("LANGUAGE.md", "No private method bears the name of a public one.");
        TreeSet<String> publicNames = new TreeSet<>();
        for (Method m : StreamTower.class.getMethods()) {
            publicNames.add(m.getName());
        }
        for (Method m : StreamTower.class.getDeclaredMethods()) {
            t.due("a method's name", m.toString(),
                "" + (Modifier.isPrivate(m.getModifiers()) && publicNames.contains(m.getName())), "false");
        }
    }

    private void classes() {
        List<Class<?>> classes = new ArrayList<>(List.of(StreamTower.class.getDeclaredClasses()));
        t.says("LANGUAGE.md", "the classes inside it, which are private or package-visible and static");
        for (Class<?> inside : classes) {
            int modifiers = inside.getModifiers();
            t.due("a class inside", inside.getName(), "" + (Modifier.isStatic(modifiers)
                && !Modifier.isPublic(modifiers) && !Modifier.isProtected(modifiers)), "true");
        }
        classes.add(StreamTower.class);
        t.says("LANGUAGE.md", "the file has at most some twelve classes, and a class some twenty fields");
        t.due("classes", "" + classes.size(), "" + (classes.size() <= MOST_CLASSES), "true");
        for (Class<?> one : classes) {
            long fields = List.of(one.getDeclaredFields()).stream()
                .filter(f -> !Modifier.isStatic(f.getModifiers())).count();
            t.due("fields", one.getName() + " " + fields, "" + (fields <= MOST_FIELDS), "true");
        }
        t.says("LANGUAGE.md", "Static fields are final");
        for (Class<?> one : classes) {
            for (Field f : one.getDeclaredFields()) {
                boolean changes = Modifier.isStatic(f.getModifiers()) && !Modifier.isFinal(f.getModifiers());
                t.due("a field", f.toString(), "" + changes, "false");
            }
        }
        t.says("LANGUAGE.md", "A method takes at most seven parameters.");
        for (Class<?> one : classes) {
            for (Method m : one.getDeclaredMethods()) {
                t.due("a method", m.toString(), "" + (m.getParameterCount() <= MOST_PARAMETERS), "true");
            }
        }
    }

    private void words(String file) {
        String code = file.replaceAll("(?s)/\\*.*?\\*/", "").replaceAll("//.*", "");
        t.says("LANGUAGE.md", "no lambda, no method reference");
        absent(code, "->", "::");
        t.says("LANGUAGE.md", "No finally, no try with resources, no exception classes of your own");
        absent(code, "\\bfinally\\b", "\\btry\\s*\\(", "extends \\w*(Exception|Error|Throwable)\\b");
        t.says("LANGUAGE.md", "No synchronized, assert, switch with patterns, record patterns.");
        absent(code, "\\bsynchronized\\b", "\\bassert\\b");
        t.says("LANGUAGE.md", "No equals, hashCode or toString of your own objects or records");
        absent(code, "\\bhashCode\\b", "\\btoString\\b", "\\bequals\\b");
        t.says("LANGUAGE.md", "The library: only what stands here.");
        absent(code.replace("import java.util.NoSuchElementException;", ""), "\\bimport\\b", "\\bjavax?\\.");
        Matcher call = Pattern.compile("\\b(System|Math|Arrays|Integer|Long|Character|String)\\.(\\w+)").matcher(code);
        while (call.find()) {
            t.due("the library", call.group(), "" + List.of("System.arraycopy", "Math.min").contains(call.group()), "true");
        }
    }

    private void absent(String code, String... patterns) {
        for (String pattern : patterns) {
            t.due("the file", pattern, "" + Pattern.compile(pattern).matcher(code).find(), "false");
        }
    }

    /** Whatever was called before, behind the 512th call, too. */
    private void thrownByAnyCall() {
        t.says("LANGUAGE.md", "No call may ever throw by itself (only by a throw statement) or fail to end, "
            + "for any arguments in any state");
        int[] numbers = {-2147483648, -121, -2, -1, 0, 1, 2, 3, 4, 5, 8, 9, 10, 13, 16, 17, 32, 33, 60, 61, 120, 121, 200,
            201, 255, 256, 2147483647};
        for (int seed = 0; seed < 40; seed++) {
            StreamTower x = new StreamTower();
            long state = seed;
            for (int k = 0; k < 2000; k++) {
                state = state * 6364136223846793005L + 1442695040888963407L;
                int a = numbers[(int) ((state >>> 33) % numbers.length)];
                int b = numbers[(int) ((state >>> 40) % numbers.length)];
                // A tower that is closed early would be reached by few calls.
                List<String> calls = calls(a, b, k > 1900);
                thrown(x, calls.get((int) ((state >>> 48) % calls.size())));
            }
        }
    }

    private static List<String> calls(int a, int b, boolean mayClose) {
        List<String> calls = new ArrayList<>(List.of("feed(" + a + ", " + b + ")", "portion()", "breakAt(" + a + ")",
            "breakAt(-1)", "push(" + a + ", " + b + ")", "read()", "some(" + a + ")", "full(" + a + ")",
            "skip(" + a + ")", "number(" + a + ")", "text()", "line()", "mark(" + a + ")", "reset()",
            "unread(" + a + ")", "available()", "about(" + a + ")", "size(true)", "size(false)", "at(" + a + ", true)",
            "at(" + a + ", false)"));
        if (mayClose) {
            calls.add("close()");
        }
        return calls;
    }

    private void thrown(StreamTower x, String call) {
        String answer = Call.of(call).on(x);
        if (!answer.startsWith("throws.")) {
            return;
        }
        String name = call.substring(0, call.indexOf('('));
        boolean named = false;
        for (Method m : StreamTower.class.getMethods()) {
            for (Class<?> type : m.getExceptionTypes()) {
                named |= m.getName().equals(name) && answer.equals("throws." + type.getSimpleName());
            }
        }
        t.due("only what the face names", call + " " + answer, "" + named, "true");
    }
}
