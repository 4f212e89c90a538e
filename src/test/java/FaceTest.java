import java.lang.reflect.Constructor;
import java.lang.reflect.Field;
import java.lang.reflect.Method;
import java.lang.reflect.Modifier;
import java.util.Set;
import java.util.TreeSet;

/** The public face is the document's, whole and without anything more. */
public final class FaceTest {
    private static final String[] FACE = {
        "public final class PieceWays",
        "public static final int PieceWays.NONE",
        "public PieceWays()",
        "public boolean PieceWays.put(boolean,long,int)",
        "public void PieceWays.clear(boolean)",
        "public int PieceWays.make()",
        "public int PieceWays.piece(int,int)",
        "public int PieceWays.size()",
        "public int PieceWays.way(int)",
        "public int PieceWays.go() throws java.lang.IllegalStateException",
        "public int PieceWays.result(int)",
        "public int PieceWays.count(int)",
    };

    public static void main(String[] args) {
        Set<String> got = new TreeSet<>();
        Set<String> publicNames = new TreeSet<>();
        Set<String> privateNames = new TreeSet<>();
        got.add(PieceWays.class.toGenericString());
        for (Constructor<?> c : PieceWays.class.getDeclaredConstructors()) {
            got.add(c.toString());
        }
        for (Field f : PieceWays.class.getDeclaredFields()) {
            if (!Modifier.isPrivate(f.getModifiers())) {
                got.add(f.toString());
            }
            if (Modifier.isStatic(f.getModifiers())) {
                Due.same(f + " is final", Modifier.isFinal(f.getModifiers()), true);
            }
        }
        for (Method m : PieceWays.class.getDeclaredMethods()) {
            if (Modifier.isPrivate(m.getModifiers())) {
                privateNames.add(m.getName());
            } else {
                got.add(m.toString());
                publicNames.add(m.getName());
            }
        }
        privateNames.retainAll(publicNames);
        Due.same("private methods with a public one's name", privateNames.toString(), "[]");
        Due.same("the face", got.toString(), new TreeSet<>(Set.of(FACE)).toString());
        for (Class<?> c : PieceWays.class.getDeclaredClasses()) {
            int m = c.getModifiers();
            Due.same(c + " is static", Modifier.isStatic(m), true);
            Due.same(c + " is hidden", Modifier.isPublic(m) || Modifier.isProtected(m), false);
        }
        Due.end();
    }
}
