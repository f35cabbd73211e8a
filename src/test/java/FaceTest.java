import java.lang.reflect.Constructor;
import java.lang.reflect.Field;
import java.lang.reflect.Method;
import java.lang.reflect.Modifier;
import java.util.ArrayList;
import java.util.Collections;
import java.util.List;

/** The public face, and what LANGUAGE.md asks of it (rules 1, 5 and 11). */
public final class FaceTest {
    private static final Check check = new Check("FaceTest");
    private static final String[] FACE = {
        "boolean type(long, int)",
        "int site() UnsupportedOperationException",
        "void name(int, int) NoSuchElementException IllegalArgumentException",
        "int arg(int) UnsupportedOperationException",
        "int text() IllegalArgumentException UnsupportedOperationException",
        "int log(int, int, long) NoSuchElementException IllegalStateException IllegalArgumentException UnsupportedOperationException",
        "int flush(int) NoSuchElementException IllegalStateException UnsupportedOperationException",
        "void rotate()",
        "int crash(int) IllegalArgumentException IllegalStateException",
        "int size()",
        "int byteOf(int) IndexOutOfBoundsException",
        "void damage(int, int) IndexOutOfBoundsException",
        "int open()",
        "int broken()",
        "long time(int) NoSuchElementException",
        "int about(int, int) NoSuchElementException IndexOutOfBoundsException",
        "int length(int) NoSuchElementException",
        "int letter(int, int) NoSuchElementException IndexOutOfBoundsException",
        "int where(int, int, int) IllegalArgumentException UnsupportedOperationException",
        "int search() IllegalArgumentException UnsupportedOperationException",
        "int clear()",
        "int find(int)",
        "int count()",
        "int distinct(int) IndexOutOfBoundsException"};

    public static void main(String[] args) {
        publicMethods();
        nothingElseIsSeen();
        classesInside();
        check.end();
    }

    private static String told(Method m) {
        List<String> parameters = new ArrayList<>();
        for (Class<?> p : m.getParameterTypes()) {
            parameters.add(p.getSimpleName());
        }
        StringBuilder s = new StringBuilder();
        s.append(m.getReturnType().getSimpleName()).append(' ').append(m.getName());
        s.append('(').append(String.join(", ", parameters)).append(')');
        for (Class<?> e : m.getExceptionTypes()) {
            s.append(' ').append(e.getSimpleName());
        }
        return s.toString();
    }

    private static void publicMethods() {
        List<String> found = new ArrayList<>();
        for (Method m : EventLog.class.getDeclaredMethods()) {
            if (Modifier.isPublic(m.getModifiers())) {
                found.add(told(m));
                check.same(m.getName() + " is no static one", Modifier.isStatic(m.getModifiers()), false);
            }
        }
        List<String> due = new ArrayList<>(List.of(FACE));
        Collections.sort(found);
        Collections.sort(due);
        check.same("methods", String.join("\n", found), String.join("\n", due));
        int shape = Modifier.PUBLIC | Modifier.FINAL;
        check.same("public and final", EventLog.class.getModifiers() & shape, shape);
        Constructor<?>[] constructors = EventLog.class.getDeclaredConstructors();
        check.same("constructors", constructors.length, 1);
        check.same("parameters", constructors[0].getParameterCount(), 0);
        check.same("public", Modifier.isPublic(constructors[0].getModifiers()), true);
    }

    private static boolean isOfTheFace(String name) {
        for (String f : FACE) {
            if (f.contains(" " + name + "(")) {
                return true;
            }
        }
        return false;
    }

    private static void nothingElseIsSeen() {
        for (Method m : EventLog.class.getDeclaredMethods()) {
            boolean isPrivate = Modifier.isPrivate(m.getModifiers());
            check.same(m.getName() + " is public or private", isPrivate || Modifier.isPublic(m.getModifiers()), true);
            check.same(m.getName() + " bears a name of its own", isPrivate && isOfTheFace(m.getName()), false);
        }
        for (Field f : EventLog.class.getDeclaredFields()) {
            check.same(f.getName() + " is private", Modifier.isPrivate(f.getModifiers()), true);
        }
    }

    private static void classesInside() {
        Class<?>[] inside = EventLog.class.getDeclaredClasses();
        check.same("twelve classes at most", inside.length + 1 <= 12, true);
        for (Class<?> c : inside) {
            check.same(c.getName() + " is static", Modifier.isStatic(c.getModifiers()), true);
            check.same(c.getName() + " is public", Modifier.isPublic(c.getModifiers()), false);
            for (Method m : c.getDeclaredMethods()) {
                check.same(c.getName() + "." + m.getName() + " bears a name of its own", isOfTheFace(m.getName()), false);
                check.same(m.getName() + " takes seven at most", m.getParameterCount() <= 7, true);
            }
            fieldsOf(c);
        }
        fieldsOf(EventLog.class);
    }

    private static void fieldsOf(Class<?> c) {
        int own = 0;
        for (Field f : c.getDeclaredFields()) {
            boolean isStatic = Modifier.isStatic(f.getModifiers());
            own += isStatic ? 0 : 1;
            check.same(f.getName() + " is final if static", !isStatic || Modifier.isFinal(f.getModifiers()), true);
        }
        check.same(c.getName() + " has twenty fields at most", own <= 20, true);
    }
}
