import java.lang.reflect.Constructor;
import java.lang.reflect.Field;
import java.lang.reflect.Method;
import java.lang.reflect.Modifier;
import java.util.Arrays;
import java.util.TreeSet;

/** The public face is the document's and no more, and LANGUAGE.md's rules 1 and 5 hold where they can be seen. */
public final class FaceTest {
    private static final String[] FACE = {
        "public ReplicaHeap(int,int)",
        "public boolean ReplicaHeap.alloc(int,int) throws java.lang.IllegalArgumentException",
        "public boolean ReplicaHeap.move(int,int)",
        "public boolean ReplicaHeap.number(int,int)",
        "public int ReplicaHeap.cell(int,int,int) throws java.lang.IndexOutOfBoundsException",
        "public int ReplicaHeap.collect(int) throws java.lang.IllegalArgumentException",
        "public int ReplicaHeap.count(int)",
        "public int ReplicaHeap.entry(int,int) throws java.lang.IndexOutOfBoundsException",
        "public int ReplicaHeap.field(int,int,int) throws java.lang.IndexOutOfBoundsException",
        "public int ReplicaHeap.look(int,int) throws java.lang.IndexOutOfBoundsException",
        "public static final int ReplicaHeap.NONE",
        "public void ReplicaHeap.get(int,int,int) throws java.lang.IllegalArgumentException,java.lang.IllegalStateException",
        "public void ReplicaHeap.put(int,int,int) throws java.lang.IllegalArgumentException,java.lang.IllegalStateException",
        "public void ReplicaHeap.putNumber(int,int,int) throws java.lang.IllegalArgumentException,java.lang.IllegalStateException",
    };

    public static void main(String[] args) {
        Class<?> heap = ReplicaHeap.class;
        Check.due("class modifiers", heap.getModifiers(), Modifier.PUBLIC | Modifier.FINAL);
        Check.same("the face", visibleMembers(heap), new TreeSet<>(Arrays.asList(FACE)).toString());
        Check.due("NONE", ReplicaHeap.NONE, -1);
        checkPrivateNames(heap);
        for (Class<?> inner : heap.getDeclaredClasses()) {
            Check.due(inner + " is static", Modifier.isStatic(inner.getModifiers()), true);
            Check.due(inner + " is public", Modifier.isPublic(inner.getModifiers()), false);
            Check.due(inner + " is protected", Modifier.isProtected(inner.getModifiers()), false);
        }
        Check.end();
    }

    private static String visibleMembers(Class<?> heap) {
        TreeSet<String> members = new TreeSet<>();
        for (Constructor<?> c : heap.getDeclaredConstructors()) {
            members.add(c.toString());
        }
        for (Method m : heap.getDeclaredMethods()) {
            if (!Modifier.isPrivate(m.getModifiers()) && !m.isSynthetic()) {
                members.add(m.toString());
            }
        }
        for (Field f : heap.getDeclaredFields()) {
            if (!Modifier.isPrivate(f.getModifiers()) && !f.isSynthetic()) {
                members.add(f.toString());
            }
            Check.due(f + " is final or not static",
                !Modifier.isStatic(f.getModifiers()) || Modifier.isFinal(f.getModifiers()), true);
        }
        return members.toString();
    }

    private static void checkPrivateNames(Class<?> heap) {
        for (Method shut : heap.getDeclaredMethods()) {
            for (Method open : heap.getMethods()) {
                boolean same = shut.getName().equals(open.getName());
                Check.due(shut + " bears a public name", Modifier.isPrivate(shut.getModifiers()) && same, false);
            }
        }
    }
}
