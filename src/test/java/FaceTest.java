import java.lang.reflect.Constructor;
import java.lang.reflect.Field;
import java.lang.reflect.Method;
import java.lang.reflect.Modifier;
import java.util.Set;
import java.util.TreeSet;

/** The class has the document's face and nothing beside it that others could see. */
public final class FaceTest {
    private static final String ARGUMENT = " throws java.lang.IllegalArgumentException";
    private static final String INDEX = " throws java.lang.IndexOutOfBoundsException";
    private static final String BOTH =
            " throws java.lang.IllegalArgumentException,java.lang.IndexOutOfBoundsException";

    private static final Set<String> FACE = Set.of(
            "public int CausalDesk.own(int)" + BOTH,
            "public int CausalDesk.send(int)" + BOTH,
            "public int CausalDesk.receive(int,int)" + BOTH,
            "public void CausalDesk.undo(int)" + ARGUMENT,
            "public boolean CausalDesk.before(int,int)" + INDEX,
            "public boolean CausalDesk.apart(int,int)" + INDEX,
            "public int CausalDesk.rank(int)" + INDEX,
            "public int CausalDesk.clock(int,int)" + BOTH,
            "public void CausalDesk.cut(int,int)" + ARGUMENT,
            "public boolean CausalDesk.whole()",
            "public int CausalDesk.close()",
            "public int CausalDesk.open()",
            "public int CausalDesk.count(int)" + ARGUMENT);

    public static void main(String[] args) {
        int modifiers = CausalDesk.class.getModifiers();
        Checks.yes("the class is public", Modifier.isPublic(modifiers));
        Checks.yes("the class is final", Modifier.isFinal(modifiers));
        checkMethods();
        checkConstructors();
        for (Field field : CausalDesk.class.getDeclaredFields()) {
            Checks.yes(field + " is private", Modifier.isPrivate(field.getModifiers()));
        }
        Checks.finish();
    }

    private static void checkMethods() {
        Set<String> seen = new TreeSet<>();
        Set<String> faceNames = new TreeSet<>();
        for (Method method : CausalDesk.class.getDeclaredMethods()) {
            if (!Modifier.isPrivate(method.getModifiers())) {
                seen.add(method.toString());
                faceNames.add(method.getName());
            }
        }
        if (!seen.equals(FACE)) {
            Checks.report("the methods are " + seen + ", due are " + new TreeSet<>(FACE));
        }
        for (Method method : CausalDesk.class.getDeclaredMethods()) {
            if (Modifier.isPrivate(method.getModifiers())) {
                Checks.no(method + " bears a public name", faceNames.contains(method.getName()));
            }
        }
    }

    private static void checkConstructors() {
        Constructor<?>[] all = CausalDesk.class.getDeclaredConstructors();
        Checks.same("constructors", all.length, 1);
        Checks.yes("it is public", Modifier.isPublic(all[0].getModifiers()));
        Checks.same("its parameters", all[0].getParameterCount(), 0);
    }
}
