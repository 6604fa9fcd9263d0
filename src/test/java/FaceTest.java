import java.lang.reflect.Constructor;
import java.lang.reflect.Field;
import java.lang.reflect.Method;
import java.lang.reflect.Modifier;
import java.util.TreeSet;

/** The public face, and the rules of LANGUAGE.md that can be seen from the compiled class. */
public final class FaceTest {
    private static final String[] FACE = {
        "boolean weigh(int, int)", "boolean feed(int)",
        "int take(int) IllegalArgumentException IllegalStateException", "int query(int)",
        "int poll() NoSuchElementException IllegalStateException",
        "int sampled(int, int) IndexOutOfBoundsException",
        "int answer(int, int, boolean) IllegalArgumentException IllegalStateException",
        "boolean expire(int)", "int look(int, int) IndexOutOfBoundsException",
        "int set(int, int, int) IndexOutOfBoundsException", "int byteOf(int, int)",
        "int listed(int, int)", "int unspent(int, int)", "boolean begin(int, int, int)",
        "int meet(int, int) IllegalArgumentException",
        "void votes(int, int, int) IllegalArgumentException IllegalStateException",
        "boolean round(int) IllegalArgumentException", "int state(int, int)", "int count(int)",
    };

    public static void main(String[] args) throws Exception {
        Checks checks = new Checks();
        checks.same("NONE", -1, SnowNode.NONE);
        checks.same("the class is public and final", Modifier.PUBLIC | Modifier.FINAL,
                SnowNode.class.getModifiers());
        checks.same("the face", new TreeSet<String>(java.util.List.of(FACE)), publicMethods());
        Constructor<?>[] constructors = SnowNode.class.getDeclaredConstructors();
        checks.same("one constructor", 1, constructors.length);
        checks.same("its parameters", 5, constructors[0].getParameterCount());
        checks.same("it is public", Modifier.PUBLIC, constructors[0].getModifiers());
        otherMembers(checks);
        classesInside(checks);
        checks.finish("FaceTest");
    }

    private static TreeSet<String> publicMethods() {
        TreeSet<String> found = new TreeSet<String>();
        for (Method method : SnowNode.class.getDeclaredMethods()) {
            if (Modifier.isPublic(method.getModifiers())) {
                StringBuilder text = new StringBuilder(method.getReturnType() + " " + method.getName() + "(");
                String comma = "";
                for (Class<?> type : method.getParameterTypes()) {
                    text.append(comma).append(type);
                    comma = ", ";
                }
                text.append(")");
                for (Class<?> thrown : method.getExceptionTypes()) {
                    text.append(" ").append(thrown.getSimpleName());
                }
                found.add(text.toString());
            }
        }
        return found;
    }

    private static void otherMembers(Checks checks) {
        TreeSet<String> publicNames = new TreeSet<String>();
        for (Method method : SnowNode.class.getMethods()) {
            publicNames.add(method.getName());
        }
        for (Method method : SnowNode.class.getDeclaredMethods()) {
            int modifiers = method.getModifiers();
            if (!Modifier.isPublic(modifiers)) {
                checks.same(method + " is private", true, Modifier.isPrivate(modifiers));
                checks.same(method + " has a name of its own", false, publicNames.contains(method.getName()));
            }
        }
        int fields = 0;
        for (Field field : SnowNode.class.getDeclaredFields()) {
            int modifiers = field.getModifiers();
            fields += Modifier.isStatic(modifiers) ? 0 : 1;
            boolean constant = field.getName().equals("NONE");
            checks.same(field + " is private", !constant, Modifier.isPrivate(modifiers));
        }
        checks.same("at most twenty fields", true, fields <= 20);
    }

    private static void classesInside(Checks checks) {
        Class<?>[] inside = SnowNode.class.getDeclaredClasses();
        checks.same("at most twelve classes", true, inside.length <= 11);
        for (Class<?> one : inside) {
            checks.same(one + " is static", true, Modifier.isStatic(one.getModifiers()));
            checks.same(one + " is not public", false,
                    Modifier.isPublic(one.getModifiers()) || Modifier.isProtected(one.getModifiers()));
            for (Field field : one.getDeclaredFields()) {
                int modifiers = field.getModifiers();
                checks.same(field + ": static fields are final", true,
                        !Modifier.isStatic(modifiers) || Modifier.isFinal(modifiers));
            }
        }
    }
}
