import java.lang.reflect.Constructor;
import java.lang.reflect.Field;
import java.lang.reflect.Method;
import java.lang.reflect.Modifier;
import java.util.Set;
import java.util.TreeSet;

/** The public face: what the document lists, and no member beside it that others could see. */
public final class FaceTest {
    private static final Set<String> METHODS = Set.of(
            "public void QuorumLock.init()",
            "public int QuorumLock.request(int)",
            "public int QuorumLock.deliver(int,int)",
            "public boolean QuorumLock.enter(int)",
            "public int QuorumLock.release(int)",
            "public int QuorumLock.holder()",
            "public int QuorumLock.votesOf(int)",
            "public int QuorumLock.lockedFor(int)",
            "public int QuorumLock.settle(int)",
            "public int QuorumLock.waiting(int,int)",
            "public int QuorumLock.look(int,int,int,int)",
            "public int QuorumLock.told(int,int)",
            "public int QuorumLock.waits(int,int)",
            "public int QuorumLock.entered()");

    public static void main(String[] args) {
        Due due = new Due();
        Class<?> face = QuorumLock.class;
        due.is("class is public and final", face.getModifiers(), Modifier.PUBLIC | Modifier.FINAL);
        due.is("NONE", QuorumLock.NONE, -1);
        Set<String> methods = new TreeSet<>();
        for (Method method : face.getDeclaredMethods()) {
            if (isSeen(method.getModifiers(), method.isSynthetic())) {
                methods.add(method.toString());
            }
        }
        due.is("methods of the face " + methods, methods.equals(METHODS), true);
        Set<String> fields = new TreeSet<>();
        for (Field field : face.getDeclaredFields()) {
            if (isSeen(field.getModifiers(), field.isSynthetic())) {
                fields.add(field.toString());
            }
        }
        due.is("fields of the face " + fields,
                fields.equals(Set.of("public static final int QuorumLock.NONE")), true);
        Set<String> constructors = new TreeSet<>();
        for (Constructor<?> constructor : face.getDeclaredConstructors()) {
            if (isSeen(constructor.getModifiers(), constructor.isSynthetic())) {
                constructors.add(constructor.toString());
            }
        }
        due.is("constructors of the face " + constructors,
                constructors.equals(Set.of("public QuorumLock(int)")), true);
        due.end();
    }

    private static boolean isSeen(int modifiers, boolean synthetic) {
        return !Modifier.isPrivate(modifiers) && !synthetic;
    }
}
