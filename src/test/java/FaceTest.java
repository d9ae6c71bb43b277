import java.lang.reflect.Constructor;
import java.lang.reflect.Field;
import java.lang.reflect.Method;
import java.lang.reflect.Modifier;
import java.util.Arrays;
import java.util.Set;
import java.util.TreeSet;

/** The public face is the document's, and nothing else of the class can be seen. */
public final class FaceTest {
    private static final String[] FACE = {
        "public static final int LicenceTexts.NONE",
        "public static final int LicenceTexts.REFUSED",
        "public LicenceTexts()",
        "public boolean LicenceTexts.unit(int)",
        "public int LicenceTexts.read(int)",
        "public int LicenceTexts.editions()",
        "public boolean LicenceTexts.fact(int,long)",
        "public int LicenceTexts.clearFacts()",
        "public int LicenceTexts.run(int)",
        "public int LicenceTexts.walk(int)",
        "public int LicenceTexts.broken(int,int)",
        "public int LicenceTexts.open(int,int)",
        "public int LicenceTexts.explain(int)",
        "public int LicenceTexts.table(int,int,int) throws java.lang.IndexOutOfBoundsException",
        "public int LicenceTexts.allowed(int,int,int)",
        "public int LicenceTexts.write(int,int)",
        "public int LicenceTexts.written(int)",
        "public boolean LicenceTexts.haul(int,int,long)",
        "public long LicenceTexts.byCatch(int,int,int)",
    };

    public static void main(String[] args) {
        Class<?> type = LicenceTexts.class;
        Set<String> seen = new TreeSet<>();
        Set<String> publicNames = new TreeSet<>();
        for (Field f : type.getDeclaredFields()) {
            if (!Modifier.isPrivate(f.getModifiers())) {
                seen.add(f.toString());
            }
            boolean fixed = !Modifier.isStatic(f.getModifiers()) || Modifier.isFinal(f.getModifiers());
            Checks.due("static and not final: " + f, fixed, true);
        }
        for (Constructor<?> c : type.getDeclaredConstructors()) {
            seen.add(c.toString());
        }
        for (Method m : type.getDeclaredMethods()) {
            if (!Modifier.isPrivate(m.getModifiers())) {
                seen.add(m.toString());
                publicNames.add(m.getName());
            }
        }
        Checks.due("the face", seen.toString(), new TreeSet<>(Arrays.asList(FACE)).toString());
        Checks.due("public", Modifier.isPublic(type.getModifiers()), true);
        Checks.due("final", Modifier.isFinal(type.getModifiers()), true);
        checkMethodNames(type, publicNames, true);
        Class<?>[] inside = type.getDeclaredClasses();
        Checks.due("at most twelve classes", inside.length < 12, true);
        for (Class<?> c : inside) {
            Checks.due("private: " + c, Modifier.isPrivate(c.getModifiers()), true);
            Checks.due("static: " + c, Modifier.isStatic(c.getModifiers()), true);
            checkMethodNames(c, publicNames, false);
        }
        Checks.end();
    }

    private static void checkMethodNames(Class<?> type, Set<String> publicNames, boolean face) {
        for (Method m : type.getDeclaredMethods()) {
            boolean hidden = !face || Modifier.isPrivate(m.getModifiers());
            Checks.due("a public name on " + m, hidden && publicNames.contains(m.getName()), false);
            Checks.due("at most seven parameters: " + m, m.getParameterCount() <= 7, true);
        }
    }
}
