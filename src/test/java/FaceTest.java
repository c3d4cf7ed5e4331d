import java.lang.reflect.Constructor;
import java.lang.reflect.Field;
import java.lang.reflect.Method;
import java.lang.reflect.Modifier;
import java.util.TreeSet;

/** The public face, and no other member of the class that is not private. */
public final class FaceTest {
    private final Runs t = new Runs();
    private final TreeSet<String> found = members();
    private final TreeSet<String> told = new TreeSet<>();

    public static void main(String[] args) {
        FaceTest test = new FaceTest();
        test.face();
        test.nothingElse();
        test.t.end();
    }

    private void face() {
        t.says("The public face", "public final class StreamTower");
        t.due("face", "the class", Modifier.toString(StreamTower.class.getModifiers()), "public final");
        member("public static final int NONE = -1;");
        t.due("face", "NONE", "" + StreamTower.NONE, "-1");
        member("public StreamTower();");
        member("public int feed(int w, int n) throws IllegalArgumentException, IllegalStateException;");
        member("public void portion();");
        member("public boolean breakAt(int place);");
        member("public int push(int kind, int size) throws IllegalArgumentException, IllegalStateException;");
        member("public int read() throws IllegalStateException;");
        member("public int some(int n) throws IllegalArgumentException, IllegalStateException;");
        member("public void full(int n) throws IllegalArgumentException, IllegalStateException, "
            + "java.util.NoSuchElementException;");
        member("public int skip(int n) throws IllegalArgumentException, IllegalStateException;");
        member("public long number(int n) throws IllegalArgumentException, IllegalStateException, "
            + "java.util.NoSuchElementException;");
        member("public int text() throws IllegalStateException, java.util.NoSuchElementException, "
            + "IllegalArgumentException;");
        member("public int line() throws IllegalStateException;");
        member("public void mark(int limit) throws IllegalStateException, IllegalArgumentException, "
            + "UnsupportedOperationException;");
        member("public void reset() throws IllegalStateException, UnsupportedOperationException;");
        member("public void unread(int b) throws IllegalStateException, IllegalArgumentException, "
            + "UnsupportedOperationException;");
        member("public int available();");
        member("public void close();");
        member("public int about(int layer);");
        member("public int size(boolean letters);");
        member("public int at(int k, boolean letters);");
    }

    private void nothingElse() {
        t.says("The public face", "public final class StreamTower");
        t.due("face", "the members", found.toString(), told.toString());
    }

    private void member(String line) {
        t.says("The public face", line);
        String told = asReflectionTells(line);
        this.told.add(told);
        t.due("face", told, "" + found.contains(told), "true");
    }

    /** Without the names of parameters, with those of packages, and without a constant's value. */
    private static String asReflectionTells(String line) {
        return line.replace(";", "").replaceAll(" = .*", "").replace("java.util.", "").replace(", ", ",")
            .replaceAll("(int|boolean) \\w+([,)])", "$1$2")
            .replaceAll("(IllegalArgument|IllegalState|UnsupportedOperation)Exception", "java.lang.$0")
            .replace("NoSuchElementException", "java.util.NoSuchElementException");
    }

    private static TreeSet<String> members() {
        TreeSet<String> found = new TreeSet<>();
        for (Method m : StreamTower.class.getDeclaredMethods()) {
            if (!Modifier.isPrivate(m.getModifiers())) {
                found.add(m.toString().replace("StreamTower.", ""));
            }
        }
        for (Constructor<?> c : StreamTower.class.getDeclaredConstructors()) {
            found.add(c.toString());
        }
        for (Field f : StreamTower.class.getDeclaredFields()) {
            if (!Modifier.isPrivate(f.getModifiers())) {
                found.add(f.toString().replace("StreamTower.", ""));
            }
        }
        return found;
    }
}
