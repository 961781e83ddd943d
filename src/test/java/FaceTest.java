import java.lang.reflect.Field;
import java.lang.reflect.Member;
import java.lang.reflect.Method;
import java.lang.reflect.Modifier;
import java.util.Arrays;
import java.util.TreeSet;

/** The public face is the document's, member for member, and nothing else of the class can be seen. */
public final class FaceTest {

    private static final String[] FACE = {
        "void key(long, long) throws IllegalStateException",
        "boolean word(int, int)",
        "int file(int) throws IllegalArgumentException, IllegalStateException",
        "boolean place(int, int) throws IndexOutOfBoundsException",
        "boolean lose(int, int, int) throws IllegalArgumentException",
        "int change(int, int, int, int, int) throws IllegalArgumentException, IllegalStateException",
        "int challenge(int, int, int, int) throws IllegalArgumentException",
        "int asked(int, int)",
        "boolean tamper(int, int)",
        "boolean judge() throws IllegalStateException",
        "int locate(int, int) throws IllegalArgumentException",
        "int found(int)",
        "int repair(int, int) throws IndexOutOfBoundsException, IllegalStateException",
        "int fetch(int) throws IndexOutOfBoundsException, IllegalStateException",
        "int fetched(int)",
        "int made(int, int, int) throws IndexOutOfBoundsException",
        "int kept(int, int, int, int) throws IllegalArgumentException",
        "int rota(int)",
        "int score(int, int)",
    };

    private static int wrong = 0;

    public static void main(String[] args) {
        Class<?> desk = AuditDesk.class;
        due("the class is public and final", Modifier.isPublic(desk.getModifiers())
                && Modifier.isFinal(desk.getModifiers()));
        due("one constructor, public, without parameters", desk.getDeclaredConstructors().length == 1
                && desk.getConstructors().length == 1 && desk.getConstructors()[0].getParameterCount() == 0);
        due("NONE is -1", AuditDesk.NONE == -1);
        methods(desk);
        fields(desk);
        for (Class<?> inner : desk.getDeclaredClasses()) {
            due(inner + " is static", Modifier.isStatic(inner.getModifiers()));
            for (Field f : inner.getDeclaredFields()) {
                due(f + " is final if it is static", finalIfStatic(f));
            }
        }
        System.out.println(wrong == 0 ? "the face is the document's" : wrong + " faults of the face");
        if (wrong != 0) {
            System.exit(1);
        }
    }

    private static void methods(Class<?> desk) {
        TreeSet<String> seen = new TreeSet<>();
        TreeSet<String> publicNames = new TreeSet<>();
        for (Method m : desk.getDeclaredMethods()) {
            if (Modifier.isPublic(m.getModifiers())) {
                seen.add(textOf(m));
                publicNames.add(m.getName());
            } else {
                due(m + " is private", Modifier.isPrivate(m.getModifiers()));
            }
        }
        TreeSet<String> asked = new TreeSet<>(Arrays.asList(FACE));
        due("the public methods are " + asked + ", not " + seen, seen.equals(asked));
        for (Method m : desk.getDeclaredMethods()) {
            due(m + " bears a name of its own", Modifier.isPublic(m.getModifiers())
                    || !publicNames.contains(m.getName()));
        }
    }

    private static void fields(Class<?> desk) {
        for (Field f : desk.getDeclaredFields()) {
            boolean constant = f.getName().equals("NONE");
            due(f + " is public if it is NONE, else private", constant
                    ? Modifier.isPublic(f.getModifiers()) : Modifier.isPrivate(f.getModifiers()));
            due(f + " is final if it is static", finalIfStatic(f));
        }
    }

    private static boolean finalIfStatic(Member m) {
        return !Modifier.isStatic(m.getModifiers()) || Modifier.isFinal(m.getModifiers());
    }

    private static String textOf(Method m) {
        String text = m.getReturnType().getSimpleName() + " " + m.getName() + "(" + names(m.getParameterTypes()) + ")";
        return m.getExceptionTypes().length == 0 ? text : text + " throws " + names(m.getExceptionTypes());
    }

    private static String names(Class<?>[] types) {
        return String.join(", ", Arrays.stream(types).map(Class::getSimpleName).toArray(String[]::new));
    }

    private static void due(String what, boolean holds) {
        if (!holds) {
            wrong++;
            System.out.println("not so: " + what);
        }
    }
}
