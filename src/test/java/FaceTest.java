import java.lang.reflect.Constructor;
import java.lang.reflect.Field;
import java.lang.reflect.Method;
import java.lang.reflect.Modifier;
import java.util.Arrays;
import java.util.Set;
import java.util.TreeSet;

/** The face is that of the document and nothing beside it can be seen from outside. */
public final class FaceTest {
    private static final String[] FACE = {
        "int feed(int, int, int, int, int)", "int turn(int)", "int turned(int)", "boolean dial(int)",
        "int wheel(int, int, int, int, int, int, int)", "boolean second(int, int)", "int step(int)",
        "int look(int, int) throws IndexOutOfBoundsException, NoSuchElementException", "int rides()", "int open()",
        "boolean clock(int)", "int hours(int)", "int comes(int, boolean)", "boolean change(int, int)",
        "int feel(int, int)", "boolean doubt(int)", "int may(int, int)", "int cover(int, int)", "long seek(int)",
        "long best(int)", "int days(int)", "int tell(int, int, int)", "int strike(int)", "int gate(int, int)",
        "int knows(int, int, int)", "int can(int, int)", "int count(int)"
    };

    public static void main(String[] args) throws Exception {
        Class<?> type = DialSafes.class;
        Checks.yes("public and final", Modifier.isPublic(type.getModifiers()) && Modifier.isFinal(type.getModifiers()));
        Set<String> seen = new TreeSet<>();
        Set<String> publicNames = new TreeSet<>();
        for (Method m : type.getDeclaredMethods()) {
            if (Modifier.isPrivate(m.getModifiers())) continue;
            seen.add(shown(m));
            publicNames.add(m.getName());
            Checks.yes(m + " is public", Modifier.isPublic(m.getModifiers()) && !Modifier.isStatic(m.getModifiers()));
        }
        Set<String> due = new TreeSet<>(Arrays.asList(FACE));
        Checks.yes("the methods are " + seen, seen.equals(due));
        for (Constructor<?> c : type.getDeclaredConstructors()) {
            Checks.yes("one public constructor", Modifier.isPublic(c.getModifiers()) && c.getParameterCount() == 0);
        }
        hidesAllBut(type, "NONE");
        Checks.due("NONE", type.getField("NONE").getInt(null), -1);
        namesApart(type, publicNames);
        for (Class<?> inside : type.getDeclaredClasses()) {
            Checks.yes(inside + " is static", Modifier.isStatic(inside.getModifiers()));
            Checks.yes(inside + " is hidden", !Modifier.isPublic(inside.getModifiers()) && !Modifier.isProtected(inside.getModifiers()));
            namesApart(inside, publicNames);
            hidesAllBut(inside, "");
        }
        Checks.yes("some twelve classes", type.getDeclaredClasses().length + 1 <= 12);
        Checks.end();
    }

    private static String shown(Method m) {
        StringBuilder text = new StringBuilder(m.getReturnType() + " " + m.getName() + "(");
        for (Class<?> p : m.getParameterTypes()) text.append(text.charAt(text.length() - 1) == '(' ? "" : ", ").append(p);
        text.append(")");
        String gap = " throws ";
        for (Class<?> e : m.getExceptionTypes()) {
            text.append(gap).append(e.getSimpleName());
            gap = ", ";
        }
        return text.toString();
    }

    private static void hidesAllBut(Class<?> type, String name) {
        int fields = 0;
        for (Field f : type.getDeclaredFields()) {
            boolean fixed = Modifier.isStatic(f.getModifiers());
            Checks.yes(f + " is final, if static", !fixed || Modifier.isFinal(f.getModifiers()));
            Checks.yes(f + " is hidden", Modifier.isPrivate(f.getModifiers()) || f.getName().equals(name));
            fields += fixed ? 0 : 1;
        }
        Checks.yes(type + " has some twenty fields at most: " + fields, fields <= 20);
    }

    private static void namesApart(Class<?> type, Set<String> publicNames) {
        for (Method m : type.getDeclaredMethods()) {
            if (Modifier.isPublic(m.getModifiers())) continue;
            Checks.no(m + " bears the name of a public one", publicNames.contains(m.getName()));
            Checks.yes(m + " has seven parameters at most", m.getParameterCount() <= 7);
        }
    }
}
