import java.lang.reflect.Constructor;
import java.lang.reflect.Field;
import java.lang.reflect.Method;
import java.lang.reflect.Modifier;
import java.util.Arrays;
import java.util.TreeSet;

/** The class has the document's public face, and no other member that can be seen from outside. */
public final class FaceTest {
    private static final String[] FACE = {
        "int region(long, long, int)",
        "int section(long, long, int) throws ArithmeticException",
        "int place()",
        "long at(int)",
        "int call(int, int, long)",
        "long depth(int)",
        "int block(long)",
        "int write(int, int, byte)",
        "int poke(int, int, int, int)",
        "int read(int)",
        "byte cell(long) throws ArrayIndexOutOfBoundsException",
        "int moved(int)",
    };

    public static void main(String[] args) {
        isPublicAndFinal();
        methodsAreThoseOfTheDocument();
        constructorIsThatOfTheDocument();
        noFieldIsSeen();
        Check.end();
    }

    private static void isPublicAndFinal() {
        int modifiers = MemoryMap.class.getModifiers();
        Check.isTrue("public", Modifier.isPublic(modifiers));
        Check.isTrue("final", Modifier.isFinal(modifiers));
    }

    private static void methodsAreThoseOfTheDocument() {
        TreeSet<String> due = new TreeSet<>(Arrays.asList(FACE));
        TreeSet<String> seen = new TreeSet<>();
        TreeSet<String> publicNames = new TreeSet<>();
        for (Method method : MemoryMap.class.getDeclaredMethods()) {
            if (!Modifier.isPrivate(method.getModifiers())) {
                seen.add(text(method));
                publicNames.add(method.getName());
                Check.isTrue(method + " is public", Modifier.isPublic(method.getModifiers()));
                Check.isTrue(method + " is no static one", !Modifier.isStatic(method.getModifiers()));
            }
        }
        Check.isTrue("methods are " + seen + ", due are " + due, seen.equals(due));
        for (Method method : MemoryMap.class.getDeclaredMethods()) {
            boolean hidden = Modifier.isPrivate(method.getModifiers());
            Check.isTrue(method + " has a name of its own", !hidden || !publicNames.contains(method.getName()));
        }
    }

    static String text(Method method) {
        StringBuilder text = new StringBuilder();
        text.append(method.getReturnType().getName()).append(' ').append(method.getName()).append('(');
        String between = "";
        for (Class<?> type : method.getParameterTypes()) {
            text.append(between).append(type.getName());
            between = ", ";
        }
        text.append(')');
        for (Class<?> type : method.getExceptionTypes()) {
            text.append(" throws ").append(type.getSimpleName());
        }
        return text.toString();
    }

    private static void constructorIsThatOfTheDocument() {
        Constructor<?>[] all = MemoryMap.class.getDeclaredConstructors();
        Check.same("how many constructors", all.length, 1);
        Check.isTrue("it is public", Modifier.isPublic(all[0].getModifiers()));
        Check.isTrue("it takes a long", Arrays.equals(all[0].getParameterTypes(), new Class<?>[] {long.class}));
    }

    private static void noFieldIsSeen() {
        for (Field field : MemoryMap.class.getDeclaredFields()) {
            Check.isTrue(field + " is private", Modifier.isPrivate(field.getModifiers()));
            boolean fixed = !Modifier.isStatic(field.getModifiers()) || Modifier.isFinal(field.getModifiers());
            Check.isTrue(field + " is no static state", fixed);
        }
    }
}
