import java.lang.reflect.Constructor;
import java.lang.reflect.Field;
import java.lang.reflect.Method;
import java.lang.reflect.Modifier;
import java.util.ArrayList;
import java.util.List;
import java.util.TreeSet;

/** The public face, and no other member of the class that is not private. */
public final class FaceTest {
    private static final String ARGUMENT = "java.lang.IllegalArgumentException";
    private static final String STATE = "java.lang.IllegalStateException";
    private static final String ELEMENT = "java.util.NoSuchElementException";
    private static final String UNSUPPORTED = "java.lang.UnsupportedOperationException";

    public static void main(String[] args) {
        Runs t = new Runs();
        t.due("face", "the class", Modifier.toString(StreamTower.class.getModifiers()), "public final");
        t.due("face", "NONE", "" + StreamTower.NONE, "-1");
        t.due("face", "the members", members().toString(), expected().toString());
        t.end();
    }

    private static TreeSet<String> members() {
        TreeSet<String> found = new TreeSet<>();
        for (Method m : StreamTower.class.getDeclaredMethods()) {
            if (!Modifier.isPrivate(m.getModifiers())) {
                found.add(m.toString().replace("StreamTower.", ""));
            }
        }
        for (Constructor<?> c : StreamTower.class.getDeclaredConstructors()) {
            found.add(c.toString());
        }
        for (Field f : StreamTower.class.getDeclaredFields()) {
            if (!Modifier.isPrivate(f.getModifiers())) {
                found.add(f.toString().replace("StreamTower.", ""));
            }
        }
        return found;
    }

    private static TreeSet<String> expected() {
        List<String> all = new ArrayList<>();
        all.add("public static final int NONE");
        all.add("public StreamTower()");
        all.add("public int feed(int,int) throws " + ARGUMENT + "," + STATE);
        all.add("public void portion()");
        all.add("public boolean breakAt(int)");
        all.add("public int push(int,int) throws " + ARGUMENT + "," + STATE);
        all.add("public int read() throws " + STATE);
        all.add("public int some(int) throws " + ARGUMENT + "," + STATE);
        all.add("public void full(int) throws " + ARGUMENT + "," + STATE + "," + ELEMENT);
        all.add("public int skip(int) throws " + ARGUMENT + "," + STATE);
        all.add("public long number(int) throws " + ARGUMENT + "," + STATE + "," + ELEMENT);
        all.add("public int text() throws " + STATE + "," + ELEMENT + "," + ARGUMENT);
        all.add("public int line() throws " + STATE);
        all.add("public void mark(int) throws " + STATE + "," + ARGUMENT + "," + UNSUPPORTED);
        all.add("public void reset() throws " + STATE + "," + UNSUPPORTED);
        all.add("public void unread(int) throws " + STATE + "," + ARGUMENT + "," + UNSUPPORTED);
        all.add("public int available()");
        all.add("public void close()");
        all.add("public int about(int)");
        all.add("public int size(boolean)");
        all.add("public int at(int,boolean)");
        return new TreeSet<>(all);
    }
}
