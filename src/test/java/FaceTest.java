import java.lang.reflect.Constructor;
import java.lang.reflect.Field;
import java.lang.reflect.Member;
import java.lang.reflect.Method;
import java.lang.reflect.Modifier;
import java.util.Arrays;
import java.util.Set;
import java.util.TreeSet;

/** The public face is the document's, and nothing else can be seen from outside. */
public final class FaceTest {
    private static final Set<String> FACE = new TreeSet<>(Arrays.asList(
            "int OFF", "int BAD", "int REFUSED", "int CUT", "SealedSectors()", "int mount()",
            "boolean arm(int)", "boolean isOn()", "int write(int, long)", "long read(int)",
            "int sync()", "int checkpoint()", "boolean alter(int, int)", "int peek(int)",
            "int seal(int)", "int writes()", "int sound()", "int steps()"));

    public static void main(String[] args) {
        Check check = new Check();
        Class<SealedSectors> type = SealedSectors.class;
        Set<String> seen = new TreeSet<>();
        Set<String> shown = new TreeSet<>();
        Set<String> hidden = new TreeSet<>();
        for (Field f : type.getDeclaredFields()) {
            note(f, f.getType().getName() + " " + f.getName(), seen);
            boolean changing = Modifier.isStatic(f.getModifiers()) && !Modifier.isFinal(f.getModifiers());
            check.due("static field " + f.getName() + " changes", changing, false);
        }
        for (Constructor<?> c : type.getDeclaredConstructors()) {
            note(c, "SealedSectors(" + named(c.getParameterTypes()) + ")", seen);
        }
        for (Method m : type.getDeclaredMethods()) {
            note(m, m.getReturnType().getName() + " " + m.getName() + "(" + named(m.getParameterTypes()) + ")", seen);
            (Modifier.isPrivate(m.getModifiers()) ? hidden : shown).add(m.getName());
        }
        if (!seen.equals(FACE)) {
            System.out.println("the face is " + seen);
        }
        check.due("the face is the document's", seen.equals(FACE), true);
        hidden.retainAll(shown);
        check.due("private methods named as public ones: " + hidden, hidden.size(), 0);
        check.due("public and final", type.getModifiers() & (Modifier.PUBLIC | Modifier.FINAL),
                Modifier.PUBLIC | Modifier.FINAL);
        check.due("OFF", SealedSectors.OFF, -1);
        check.due("BAD", SealedSectors.BAD, -2);
        check.due("REFUSED", SealedSectors.REFUSED, -3);
        check.due("CUT", SealedSectors.CUT, -4);
        check.end();
    }

    private static void note(Member member, String text, Set<String> seen) {
        if (Modifier.isPrivate(member.getModifiers()) || member.isSynthetic()) {
            return;
        }
        seen.add(Modifier.isPublic(member.getModifiers()) ? text : "not public: " + text);
    }

    private static String named(Class<?>[] types) {
        StringBuilder text = new StringBuilder();
        for (Class<?> type : types) {
            text.append(text.length() == 0 ? "" : ", ").append(type.getName());
        }
        return text.toString();
    }
}
