import java.lang.reflect.Constructor;
import java.lang.reflect.Executable;
import java.lang.reflect.Field;
import java.lang.reflect.Method;
import java.lang.reflect.Modifier;
import java.util.Arrays;
import java.util.Set;
import java.util.TreeSet;
import java.util.stream.Collectors;

/** The class has the document's face and no other member that can be seen. */
public final class FaceTest {
    private static final String IOOB = "IndexOutOfBoundsException";
    private static final String IA = "IllegalArgumentException";
    private static final String IS = "IllegalStateException";
    private static final String UO = "UnsupportedOperationException";

    private static final String[] FACE = {
        "void setup(int, int, int, int) " + IA,
        "void pass(int) " + IA,
        "void error(int, int) " + IOOB + " " + IA,
        "void rule(int) " + IA,
        "int admit(int, int) " + IOOB + " " + IA + " " + IS,
        "void plead(int, int) " + IOOB + " " + IA + " " + IS + " " + UO,
        "void back(int, int, int) " + IOOB + " " + IS + " " + IA + " " + UO,
        "int split() " + IS,
        "int deliver(int) " + IOOB,
        "int deliverAll(int) " + IA,
        "void lose(int) " + IOOB,
        "void twice(int) " + IOOB + " " + IA,
        "int resend(int) " + IOOB,
        "int letter(int, int) " + IOOB + " " + IA,
        "void crash(int) " + IOOB + " " + IS,
        "boolean restart(int) " + IOOB,
        "boolean desk(boolean)",
        "long about(int, int) " + IOOB + " " + IA,
        "int has(int, int, int) " + IOOB + " " + IA,
        "int there(int)",
        "int used(int)",
        "int busiest(int) " + IA,
        "int count(int) " + IA,
    };

    private FaceTest() {
    }

    public static void main(String[] args) {
        methods();
        others();
        nested();
        Check.end("FaceTest");
    }

    private static String names(Class<?>[] classes, String between) {
        return Arrays.stream(classes).map(Class::getSimpleName).collect(Collectors.joining(between));
    }

    private static String told(Method method) {
        return (method.getReturnType().getSimpleName() + " " + method.getName() + "("
                + names(method.getParameterTypes(), ", ") + ") " + names(method.getExceptionTypes(), " ")).trim();
    }

    private static void methods() {
        Set<String> due = new TreeSet<>(Arrays.asList(FACE));
        Set<String> seen = new TreeSet<>();
        Set<String> names = new TreeSet<>();
        for (Method method : QuotaDesk.class.getDeclaredMethods()) {
            if (Modifier.isPublic(method.getModifiers())) {
                seen.add(told(method));
                names.add(method.getName());
                Check.due(method + " is of an object", Modifier.isStatic(method.getModifiers()), false);
            }
        }
        for (String face : due) {
            Check.due("the face has " + face, seen.contains(face), true);
        }
        Check.due("methods of the face", seen.size(), due.size());
        for (Method method : QuotaDesk.class.getDeclaredMethods()) {
            boolean open = Modifier.isPublic(method.getModifiers());
            Check.due(method + " is of the face or private", open || Modifier.isPrivate(method.getModifiers()), true);
            Check.due(method + " bears no name of the face", !open && names.contains(method.getName()), false);
        }
    }

    private static void others() {
        Check.due("the class is public and final", QuotaDesk.class.getModifiers(), Modifier.PUBLIC | Modifier.FINAL);
        Constructor<?>[] made = QuotaDesk.class.getDeclaredConstructors();
        Check.due("constructors", made.length, 1);
        Check.due("its parameters", ((Executable) made[0]).getParameterCount(), 0);
        Check.due("it is public", Modifier.isPublic(made[0].getModifiers()), true);
        int open = 0;
        for (Field field : QuotaDesk.class.getDeclaredFields()) {
            if (!Modifier.isPrivate(field.getModifiers())) {
                open++;
                Check.due("only NONE is open: " + field, field.getName().equals("NONE"), true);
            }
            boolean still = !Modifier.isStatic(field.getModifiers()) || Modifier.isFinal(field.getModifiers());
            Check.due("what is static is final: " + field, still, true);
        }
        Check.due("open fields", open, 1);
    }

    private static void nested() {
        for (Class<?> inner : QuotaDesk.class.getDeclaredClasses()) {
            int how = inner.getModifiers();
            Check.due(inner + " is static", Modifier.isStatic(how), true);
            Check.due(inner + " is hidden", Modifier.isPublic(how) || Modifier.isProtected(how), false);
        }
    }
}
