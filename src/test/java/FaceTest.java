import java.lang.reflect.Constructor;
import java.lang.reflect.Field;
import java.lang.reflect.Method;
import java.lang.reflect.Modifier;
import java.util.Set;
import java.util.TreeSet;

/** The class shows what the document's face shows, and nothing else that is not private. */
public final class FaceTest {
    private static final Set<String> FACE = Set.of(
        "public ZoneHeap()",
        "public int ZoneHeap.get(int) throws java.lang.IllegalArgumentException",
        "public int ZoneHeap.back(int) throws java.lang.IllegalArgumentException,java.lang.IllegalStateException",
        "public int ZoneHeap.again(int,int) throws java.lang.IllegalArgumentException,java.lang.IllegalStateException",
        "public int ZoneHeap.kind(int) throws java.lang.IndexOutOfBoundsException",
        "public int ZoneHeap.block(int) throws java.lang.IndexOutOfBoundsException",
        "public void ZoneHeap.write(int,int) throws java.lang.IndexOutOfBoundsException,java.lang.IllegalStateException",
        "public int ZoneHeap.read(int) throws java.lang.IndexOutOfBoundsException,java.lang.IllegalStateException",
        "public int ZoneHeap.lost(int,int)",
        "public int ZoneHeap.lostAt(int) throws java.lang.IndexOutOfBoundsException",
        "public int ZoneHeap.count(int) throws java.lang.IllegalArgumentException");

    private static final Runs RUNS = new Runs();

    public static void main(String[] args) {
        RUNS.due("face", "the class", Modifier.toString(ZoneHeap.class.getModifiers()), "public final");
        RUNS.due("face", "the members", shown().toString(), new TreeSet<>(FACE).toString());
        checkNames();
        checkStaticFields();
        RUNS.end();
    }

    private static Set<String> shown() {
        Set<String> shown = new TreeSet<>();
        for (Constructor<?> c : ZoneHeap.class.getDeclaredConstructors()) {
            addShown(shown, c.getModifiers(), c.toString());
        }
        for (Method m : ZoneHeap.class.getDeclaredMethods()) {
            addShown(shown, m.getModifiers(), m.toString());
        }
        for (Field f : ZoneHeap.class.getDeclaredFields()) {
            addShown(shown, f.getModifiers(), f.toString());
        }
        return shown;
    }

    private static void addShown(Set<String> shown, int modifiers, String member) {
        if (!Modifier.isPrivate(modifiers)) {
            shown.add(member);
        }
    }

    private static void checkNames() {
        Set<String> names = new TreeSet<>();
        for (Method m : ZoneHeap.class.getMethods()) {
            names.add(m.getName());
        }
        for (Method m : ZoneHeap.class.getDeclaredMethods()) {
            if (Modifier.isPrivate(m.getModifiers()) && names.contains(m.getName())) {
                RUNS.tell("a private method bears the name of a public one: " + m.getName());
            }
        }
    }

    private static void checkStaticFields() {
        for (Field f : ZoneHeap.class.getDeclaredFields()) {
            if (Modifier.isStatic(f.getModifiers()) && !Modifier.isFinal(f.getModifiers())) {
                RUNS.tell("a static field is not final: " + f.getName());
            }
        }
    }
}
